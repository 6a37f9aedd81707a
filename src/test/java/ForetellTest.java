/** Terms 4: what a picture leans on, and what a vector foretells, sentence by sentence. */
public final class ForetellTest {
    private static final Checks checks = new Checks("foretelling");
    private static final int I = BitText.I;
    private static final int P = BitText.P;
    private static final int B = BitText.B;
    private static final int[] ONLY = {0, 0};

    public static void main(String[] args) {
        leansOnTheRightOnes();
        leansOnWholeOnesOfItsStreamAlone();
        pWithoutOne();
        bWithoutTwo();
        wholesAndHalves();
        roundedHalves();
        everyVector();
        outsideOfThePlane();
        theEdgeItself();
        otherPlanesAreHalved();
        bothWays();
        checks.finish();
    }

    /** Four blocks of 10, 20, 30 and 40. */
    private static BitText fourBlocks() {
        return new BitText().head(1, 1).picture(I, 8, 0).flat(-118, 10, 10, 10, 0, 0).align();
    }

    /** I 130, P 140, I 150, then a B each way, and a P; a B is leant on by none. */
    private static void leansOnTheRightOnes() {
        checks.sentence("P leans forward on the latest whole I or P; B forward on the one ahead of that, backward on the latest");
        BitText text = new BitText().head(1, 1).picture(I, 8, 0).flat(2, 0, 0, 0, 0, 0).align()
                .picture(P, 8, 1).raw("11").flat(12, 0, 0, 0, 0, 0).align()
                .picture(I, 8, 0).flat(22, 0, 0, 0, 0, 0).align()
                .picture(B, 8, 1).u(0).raw("0 10 0 1 1").align()
                .picture(B, 8, 1).u(0).raw("0 01 0 1 1").align()
                .picture(B, 8, 1).raw("11").flat(52, 0, 0, 0, 0, 0).align()
                .picture(P, 8, 1).u(1).align()
                .picture(P, 8, 1).raw("11").flat(32, 0, 0, 0, 0, 0).align()
                .picture(B, 8, 1).u(0).raw("0 10 0 1 1").align()
                .picture(B, 8, 1).u(0).raw("0 01 0 1 1").align();
        ReelReader reader = checks.right("leant on", text, 10);
        int[] dots = {130, 140, 140, 150, 180, 150, 150, 150, 160, 160};
        int[] numbers = {0, 1, 3, 4, 5, 2, 6, 8, 9, 7};
        for (int k = 0; k < 10; k++) {
            checks.due("number of " + k, Checks.shown(reader, k, 1), numbers[k]);
            checks.due("dot of " + k, reader.dot(k, 0, 3, 3), dots[k]);
        }
    }

    private static void leansOnWholeOnesOfItsStreamAlone() {
        checks.sentence("P leans forward on the latest whole I or P;");
        ReelReader reader = checks.right("a stream ahead", BitText.twoToLeanOn(1, 1), 2);
        BitText.give(reader, new BitText().head(1, 1).picture(P, 1, 1).u(1).end().toString());
        checks.due("P behind a stream: read()", reader.read(), 0);
        checks.due("P behind a stream: wrong()", reader.wrong(), 56);
        BitText.give(reader, BitText.flatI(1, 1).picture(B, 1, 1).u(0).raw("0 10 0 1 1").end().toString());
        checks.due("B behind a stream: read()", reader.read(), 1);
        checks.due("B behind a stream: wrong()", reader.wrong(), 112);
    }

    private static void pWithoutOne() {
        checks.sentence("(wrong at the SORT's first bit: P without one, B without two).");
        BitText text = new BitText().head(1, 1).number(256, 32).here().raw("10 00001 001").u(1).end();
        checks.looks("P", checks.wrongHere("P", text, 0), 16, 16, 0, 0, 0, 0, 0, 0);
        // The SORT is wrong ahead of a QUANT that is wrong, too.
        checks.wrongHere("P and QUANT 0", new BitText().head(1, 1).number(256, 32).here().raw("10 00000 000"), 0);
        checks.right("P with one", BitText.flatI(1, 1).picture(P, 1, 1).u(1), 2);
        checks.right("P with two", BitText.twoToLeanOn(1, 1).picture(P, 1, 1).u(1), 3);
    }

    private static void bWithoutTwo() {
        checks.sentence("(wrong at the SORT's first bit: P without one, B without two).");
        BitText text = new BitText().head(1, 1).number(256, 32).here().raw("11 00001 001").u(0).raw("0 10 0 1 1").end();
        checks.looks("B with none", checks.wrongHere("B with none", text, 0), 16, 16, 0, 0, 0, 0, 0, 0);
        text = BitText.flatI(1, 1).number(256, 32).here().raw("11 00001 001").u(0).raw("0 10 0 1 1").end();
        checks.looks("B with one", checks.wrongHere("B with one", text, 0), 16, 16, 1, 1, 1, 0, 6, 0);
        // Also one that would be INNER or lean on the latest one alone.
        checks.wrongHere("B backward", BitText.flatI(1, 1).number(256, 32).here().raw("11 00001 001").u(0).raw("0 01 0 1 1").end(), 0);
        checks.wrongHere("B INNER", BitText.flatI(1, 1).number(256, 32).here().raw("11 00001 001 11").flat().end(), 0);
        checks.right("B with I and P", BitText.twoToLeanOn(1, 1).picture(B, 1, 1).u(0).raw("0 10 0 1 1"), 3);
        checks.right("B with I and I", BitText.flatI(1, 1).picture(I, 1, 0).flat().align()
                .picture(B, 1, 1).u(0).raw("0 10 0 1 1"), 3);
    }

    private static ReelReader moved(BitText first, int a, int d) {
        return checks.right("moved", first.picture(P, 1, 7).u(0).raw("0 1 0").s(a).s(d), 2);
    }

    private static void wholesAndHalves() {
        checks.sentence("(p + q + r + s + 2) >> 2 of the DOTS at the wholes around, (p + q + 1) >> 1 if one of both is whole, "
                + "the DOT itself if both are.");
        // The vector, then x, y and the dot.
        int[][] wanted = {{2, 0, 6, 0, 10}, {2, 0, 7, 0, 20}, {2, 0, 15, 0, 20}, {2, 0, 7, 15, 40},
            {1, 0, 6, 0, 10}, {1, 0, 7, 0, 15}, {1, 0, 8, 0, 20}, {1, 0, 15, 0, 20}, {1, 0, 7, 8, 35},
            {0, 1, 0, 6, 10}, {0, 1, 0, 7, 20}, {0, 1, 0, 8, 30}, {0, 1, 0, 15, 30}, {0, 1, 8, 7, 30},
            {1, 1, 7, 7, 25}, {1, 1, 7, 0, 15}, {1, 1, 0, 7, 20}, {1, 1, 15, 15, 40}, {1, 1, 15, 7, 30},
            {-1, 0, 0, 0, 10}, {-1, 0, 8, 0, 15}, {-1, 0, 7, 0, 10}, {-1, 0, 9, 0, 20},
            {0, -1, 0, 8, 20}, {-1, -1, 8, 8, 25}, {-1, -1, 0, 0, 10}, {-1, 1, 8, 7, 25}, {1, -1, 7, 8, 25},
            {-16, -16, 15, 15, 10}, {-16, 0, 15, 15, 30}, {15, 15, 0, 0, 25}, {15, 15, 1, 1, 40},
            {15, -16, 0, 0, 15}, {15, -16, 1, 15, 20}, {3, 0, 6, 0, 15}, {3, 0, 5, 0, 10}, {-3, 0, 9, 0, 15}};
        for (int[] one : wanted) {
            checks.due("(" + one[0] + ", " + one[1] + "): dot(1, 0, " + one[2] + ", " + one[3] + ")",
                    moved(fourBlocks(), one[0], one[1]).dot(1, 0, one[2], one[3]), one[4]);
        }
    }

    /** Four blocks, of 100 and some more: the middle of them shows how a sum is rounded. */
    private static void roundedHalves() {
        checks.sentence("(p + q + r + s + 2) >> 2 of the DOTS at the wholes around, (p + q + 1) >> 1 if one of both is whole,");
        // The four of them, then the dot between all, between the upper ones, and between the left ones.
        int[][] wanted = {{0, 0, 0, 1, 0, 0, 0}, {0, 0, 1, 1, 1, 0, 1}, {0, 1, 1, 1, 1, 1, 1}, {1, 0, 0, 0, 0, 1, 1},
            {0, 1, 0, 0, 0, 1, 0}, {3, 0, 0, 2, 1, 2, 2}, {3, 0, 0, 3, 2, 2, 2}, {0, 3, 4, 0, 2, 2, 2}};
        for (int[] one : wanted) {
            int first = one[0] - 28;
            String what = one[0] + " " + one[1] + " " + one[2] + " " + one[3];
            for (int way = 0; way < 3; way++) {
                BitText text = new BitText().head(1, 1).picture(I, 8, 0)
                        .flat(first, one[1] - one[0], one[2] - one[1], one[3] - one[2], 0, 0).align();
                ReelReader reader = moved(text, way == 2 ? 0 : 1, way == 1 ? 0 : 1);
                int dot = way == 0 ? reader.dot(1, 0, 7, 7) : way == 1 ? reader.dot(1, 0, 7, 0) : reader.dot(1, 0, 0, 7);
                checks.due(what + ": way " + way, dot, 100 + one[4 + way]);
            }
        }
    }

    private static void everyVector() {
        checks.sentence("A VECTOR (a, d) of a DOT x, y of the first PLANE: at (2 x + a, 2 y + d) in halves:");
        Ramp rising = Ramp.rising(1, 1);
        for (int a = -20; a <= 20; a++) {
            for (int d = -20; d <= 20; d++) {
                ReelReader reader = moved(rising.write(new BitText().head(1, 1), I), a, d);
                rising.isMoved(checks, "every vector", reader, 1, ONLY, a, d);
            }
        }
    }

    private static void outsideOfThePlane() {
        checks.sentence("DOTS outside of the PLANE are those nearest at its edge.");
        Ramp rising = Ramp.rising(3, 3);
        int[] far = {-1024, -1023, -98, -97, -96, -33, 33, 96, 97, 98, 1022, 1023};
        int[][] squares = {{0, 0}, {1, 1}, {2, 2}};
        for (int a : far) {
            for (int d : far) {
                BitText text = rising.write(new BitText().head(3, 3), I).picture(P, 1, 7);
                for (int i = 0; i < 3; i++) {
                    text.u(i == 0 ? 0 : 3).raw("0 1 0").s(a).s(d);
                }
                ReelReader reader = checks.right("far", text, 2);
                for (int[] square : squares) {
                    rising.isMoved(checks, "far", reader, 1, square, a, d);
                }
            }
        }
        // Each corner is all that is left of the picture.
        int[][] corners = {{-1024, -1024, 10}, {1023, -1024, 20}, {-1024, 1023, 30}, {1023, 1023, 40}};
        for (int[] one : corners) {
            checks.due("the corner of " + one[2], moved(fourBlocks(), one[0], one[1]).sum(1, 0), one[2] * 128 * 257);
        }
    }

    /** No dot of this picture is like its neighbours. */
    private static BitText rough() {
        BitText text = new BitText().head(1, 1).picture(I, 1, 0).raw("0");
        for (int b = 0; b < 6; b++) {
            text.s(0).u(43).s(80).u(20).s(60).u(0);
        }
        return text.align();
    }

    private static void theEdgeItself() {
        checks.sentence("DOTS outside of the PLANE are those nearest at its edge.");
        // Beyond the plane by one dot and by many, on all four sides.
        int[][] vectors = {{-64, 0}, {62, 0}, {0, -64}, {0, 62}, {-2, 0}, {2, 0}, {0, -2}, {0, 2}, {-1, 0}, {1, 0}, {0, -1}, {0, 1}};
        for (int[] vector : vectors) {
            ReelReader reader = moved(rough(), vector[0], vector[1]);
            for (int i = 0; i < 16; i++) {
                int x = vector[0] < 0 ? 0 : vector[0] > 0 ? 15 : i;
                int y = vector[1] < 0 ? 0 : vector[1] > 0 ? 15 : i;
                String what = "(" + vector[0] + ", " + vector[1] + "): dot " + x + ", " + y;
                checks.due(what, reader.dot(1, 0, x, y), reader.dot(0, 0, x, y));
                checks.due(what + " of the third plane", reader.dot(1, 2, x / 2, y / 2), reader.dot(0, 2, x / 2, y / 2));
                int inside = vector[0] != 0 ? reader.dot(0, 0, x == 0 ? 1 : 14, y) : reader.dot(0, 0, x, y == 0 ? 1 : 14);
                checks.due(what + " is unlike its neighbour", reader.dot(0, 0, x, y) != inside, true);
            }
        }
    }

    private static void otherPlanesAreHalved() {
        checks.sentence("Of the other PLANES a and d are first halved, rounded to 0.");
        // The second plane is 50 on the left, 70 on the right: vector, square, x, dot.
        int[][] wanted = {{1, 0, 7, 50}, {2, 0, 7, 60}, {3, 0, 7, 60}, {4, 0, 7, 70}, {4, 0, 6, 50}, {5, 0, 7, 70},
            {6, 0, 6, 60}, {-1, 1, 8, 70}, {-2, 1, 8, 60}, {-3, 1, 8, 60}, {-4, 1, 8, 50}, {-4, 1, 9, 70}, {-6, 1, 9, 60}};
        for (int[] one : wanted) {
            BitText text = new BitText().head(2, 1).picture(I, 8, 0)
                    .flat(0, 0, 0, 0, -78, 0).flat(0, 0, 0, 0, 20, 0).align()
                    .picture(P, 1, 1).u(one[1]).raw("0 1 0").s(one[0]).s(0);
            ReelReader reader = checks.right("across", one[1] == 0 ? text.u(1) : text, 2);
            checks.due("across " + one[0] + ": dot(1, 1, " + one[2] + ", 3)", reader.dot(1, 1, one[2], 3), one[3]);
        }
        // The third plane is 50 above, 70 below: vector, square, y, dot.
        for (int[] one : wanted) {
            BitText text = new BitText().head(1, 2).picture(I, 8, 0)
                    .flat(0, 0, 0, 0, 0, -78).flat(0, 0, 0, 0, 0, -58).align()
                    .picture(P, 1, 1).u(one[1]).raw("0 1 0").s(0).s(one[0]);
            ReelReader reader = checks.right("down", one[1] == 0 ? text.u(1) : text, 2);
            checks.due("down " + one[0] + ": dot(1, 2, 3, " + one[2] + ")", reader.dot(1, 2, 3, one[2]), one[3]);
        }
    }

    private static void bothWays() {
        checks.sentence("Of both ways it is (f + b + 1) >> 1.");
        // Forward, backward, both.
        int[][] wanted = {{101, 50, 76}, {100, 50, 75}, {50, 101, 76}, {0, 1, 1}, {0, 0, 0}, {255, 254, 255}, {255, 255, 255}};
        for (int[] one : wanted) {
            BitText text = new BitText().head(1, 1).picture(I, 8, 0).flat(one[0] - 128, 0, 0, 0, one[1] - 128, 0).align()
                    .picture(P, 8, 1).raw("1 1").flat(one[1] - 128, 0, 0, 0, one[0] - 128, 0).align()
                    .picture(B, 8, 1).u(0).raw("0 10 0 1 1").align().picture(B, 8, 1).u(0).raw("0 01 0 1 1").align()
                    .picture(B, 8, 1).u(0).raw("0 11 0 1 1 1 1");
            ReelReader reader = checks.right("ways", text, 5);
            for (int way = 0; way < 3; way++) {
                checks.due("way " + way + " of " + one[0] + " and " + one[1], reader.sum(1 + way, 0), 128 * 257 * one[way]);
            }
            checks.due("both ways, second plane", reader.dot(3, 1, 4, 4), one[2]);
        }
        // Each way is rounded by itself first: (0 + 1 + 1) >> 1 is 1, and (1 + 0 + 1) >> 1 is 1.
        BitText text = new BitText().head(1, 1).picture(I, 8, 0).flat(-128, 1, -1, 1, 0, 0).align()
                .picture(P, 8, 1).raw("1 1").flat(-128, 0, 0, 0, 0, 0).align()
                .picture(B, 8, 1).u(0).raw("0 11 0").s(1).s(0).s(0).s(0);
        checks.due("rounded by itself", checks.right("rounded", text, 3).dot(1, 0, 7, 0), 1);
    }
}
