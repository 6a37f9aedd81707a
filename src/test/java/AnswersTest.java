/** Promises 7, 9 and 10: look, dot and sum, sentence by sentence. */
public final class AnswersTest {
    private static final Checks checks = new Checks("answers");
    private static final int NONE = ReelReader.NONE;
    private static final int LOWEST = Integer.MIN_VALUE;
    private static final int HIGHEST = Integer.MAX_VALUE;
    private static final int I = BitText.I;
    private static final int P = BitText.P;
    private static final int B = BitText.B;
    private static final String WHOLE = "each as it was whole, also in a PICTURE that is wrong further on.";

    public static void main(String[] args) {
        sizeIsNotRead();
        picturesShownAndWhole();
        squaresAndPassedOver();
        blocksAndLevels();
        wholeSquares();
        wholeBlocks();
        wholeLevels();
        wholeRunsOfPassedOver();
        looksDoNotAddUp();
        anotherWhat();
        dots();
        noSuchDot();
        sums();
        theHighestSum();
        noSuchSum();
        checks.finish();
    }

    private static void sizeIsNotRead() {
        checks.sentence("what 0 WIDTH, 1 HEIGHT of the first PLANE (0 if not even A and B were read)");
        int[] begun = {0, 8, 16};
        String head = new BitText().head(3, 2).toString();
        for (int bits : begun) {
            ReelReader reader = checks.wrongAt("cut", new BitText().raw(head.substring(0, bits)), bits);
            checks.looks(bits + " bits", reader, 0, 0, 0, 0, 0, 0, 0, 0);
        }
        checks.looks("24 bits", checks.wrongAt("24 bits", new BitText().raw(head), 24), 48, 32, 0, 0, 0, 0, 0, 0);
        ReelReader reader = checks.wrongAt("a wrong ALIGN", new BitText().number(21074, 16).raw("1001 1000"), 20);
        checks.looks("a wrong ALIGN", reader, 48, 32, 0, 0, 0, 0, 0, 0);
        // The size of the stream ahead is gone.
        reader = checks.right("a stream", BitText.flatI(3, 2), 1);
        reader.bits(21074, 16);
        reader.read();
        checks.looks("behind a stream", reader, 0, 0, 0, 0, 0, 0, 0, 0);
    }

    private static void picturesShownAndWhole() {
        checks.sentence("2 PICTURES shown, 3 PICTURES that were whole,");
        ReelReader reader = checks.right("I P B", BitText.twoToLeanOn(1, 1).picture(B, 1, 1).u(0).raw("0 01 0 1 1"), 3);
        checks.looks("I P B", reader, 16, 16, 3, 3, 2, 1, 6, 0);
        reader = checks.wrongHere("a wrong B", BitText.twoToLeanOn(1, 1).picture(B, 1, 1).u(0).raw("0 0").here().raw("0 1").end(), 0);
        checks.looks("a wrong B", reader, 16, 16, 2, 2, 1, 1, 6, 0);
        reader = checks.wrongHere("a wrong ALIGN", BitText.flatI(1, 1).picture(P, 1, 1).u(1).here().raw("1").end(), 0);
        checks.looks("a wrong ALIGN", reader, 16, 16, 1, 1, 1, 1, 6, 0);
    }

    private static void squaresAndPassedOver() {
        checks.sentence("4 SQUARES read (not passed over), 5 passed over,");
        BitText text = BitText.flatI(4, 1).picture(P, 1, 1).u(1).raw("0 0 0").u(0).raw("0 1 0 1 1").u(1).align()
                .picture(B, 1, 1).u(0).raw("0 11 0 1 1 1 1").u(2).raw("1").flat();
        checks.looks("squares", checks.right("squares", text, 3), 64, 16, 3, 3, 8, 4, 30, 0);
    }

    private static void blocksAndLevels() {
        checks.sentence("6 BLOCKS coded, 7 LEVELS (DC does not count):");
        BitText text = new BitText().head(1, 1).picture(I, 8, 0).raw("0").s(5).u(1).s(2).u(9).s(-3).u(0)
                .s(7).u(0).s(0).u(63).s(1).u(0).s(0).u(0).s(0).u(0).s(0).u(0).align()
                .picture(P, 8, 1).u(0).raw("0 0 1 0 010010").u(1).s(3).u(4).s(-1).u(0).u(0).align()
                .picture(P, 8, 1).u(0).raw("0 0 1 0 000000");
        checks.looks("blocks", checks.right("blocks", text, 3), 16, 16, 3, 3, 3, 0, 8, 5);
    }

    private static void wholeSquares() {
        checks.sentence(WHOLE);
        BitText text = BitText.flatI(2, 1).picture(P, 1, 1).u(0).raw("0 0 0").u(0).raw("0 1 0").s(1).here().s(16).end();
        checks.looks("a vector", checks.wrongHere("a vector", text, 0), 32, 16, 1, 1, 3, 0, 12, 0);
        text = BitText.flatI(2, 1).picture(P, 1, 1).u(0).raw("0 0 1 0 000001").u(1).s(1).here().u(64).end();
        checks.looks("its last block", checks.wrongHere("its last block", text, 0), 32, 16, 1, 1, 2, 0, 12, 1);
        text = BitText.flatI(2, 1).picture(P, 1, 1).u(0).raw("0 0 1 0 000001").u(1).s(1).u(0).here().u(2).end();
        checks.looks("behind it", checks.wrongHere("behind it", text, 0), 32, 16, 1, 1, 3, 0, 13, 1);
        text = new BitText().head(2, 1).picture(I, 8, 0).flat().raw("1").here().raw("00000").end();
        checks.looks("a QUANT", checks.wrongHere("a QUANT", text, 4), 32, 16, 0, 0, 1, 0, 6, 0);
    }

    private static void wholeBlocks() {
        checks.sentence(WHOLE);
        for (int b = 0; b < 6; b++) {
            BitText text = new BitText().head(1, 1).picture(I, 8, 0).raw("0");
            for (int i = 0; i < b; i++) {
                text.s(0).u(0);
            }
            String ahead = text.toString();
            ReelReader reader = checks.wrongHere("a DC", text.here().s(128).end(), 0);
            checks.looks("a DC of block " + b, reader, 16, 16, 0, 0, 0, 0, b, 0);
            reader = checks.wrongHere("a U", new BitText().raw(ahead).s(1).here().u(64).end(), 0);
            checks.looks("a U of block " + b, reader, 16, 16, 0, 0, 0, 0, b, 0);
        }
    }

    private static void wholeLevels() {
        checks.sentence(WHOLE);
        BitText text = BitText.codedFirst(1).u(1).s(1).u(1).s(-1).u(1).here().s(0).end();
        checks.looks("a LEVEL of 0", checks.wrongHere("a LEVEL of 0", text, 0), 16, 16, 1, 1, 1, 0, 6, 2);
        text = BitText.codedFirst(1).u(1).s(1).u(1).s(-1).here().u(63).s(1).end();
        checks.looks("a U behind it", checks.wrongHere("a U behind it", text, 0), 16, 16, 1, 1, 1, 0, 6, 2);
    }

    private static void wholeRunsOfPassedOver() {
        checks.sentence(WHOLE);
        BitText text = BitText.flatI(4, 2).picture(P, 1, 1).u(3).raw("0 0 1 1").here().raw("00000").end();
        checks.looks("a QUANT", checks.wrongHere("a QUANT", text, 4), 64, 32, 1, 1, 8, 3, 48, 0);
        text = BitText.flatI(4, 2).picture(P, 1, 1).u(3).raw("0 0 0").u(2).raw("0 0 0").here().u(2).end();
        checks.looks("a U", checks.wrongHere("a U", text, 0), 64, 32, 1, 1, 10, 5, 48, 0);
        text = BitText.flatI(4, 2).picture(P, 1, 1).u(8).here().raw("1").end();
        checks.looks("an ALIGN", checks.wrongHere("an ALIGN", text, 0), 64, 32, 1, 1, 8, 8, 48, 0);
    }

    private static void looksDoNotAddUp() {
        checks.sentence("Of what was shown last:");
        ReelReader reader = new ReelReader();
        for (int i = 0; i < 3; i++) {
            BitText.give(reader, BitText.twoToLeanOn(2, 1).end().toString());
            reader.read();
            checks.looks("read " + i, reader, 32, 16, 2, 2, 2, 2, 12, 0);
        }
    }

    private static void anotherWhat() {
        checks.sentence("NoSuchElementException: another what.");
        int[] others = {-1, 8, 9, 100, LOWEST, HIGHEST};
        ReelReader[] readers = {new ReelReader(), checks.right("one", BitText.flatI(1, 1), 1)};
        for (ReelReader reader : readers) {
            for (int what : others) {
                checks.due("look(" + what + ")", Checks.look(reader, what), Checks.THROWS);
            }
        }
    }

    private static void dots() {
        checks.sentence("A DOT of a PLANE (0 to 2) of a shown PICTURE; NONE if there is none such.");
        Ramp rising = Ramp.rising(3, 2);
        ReelReader reader = checks.right("ramp", rising.write(new BitText().head(3, 2), I), 1);
        for (int plane = 0; plane < 3; plane++) {
            int width = plane == 0 ? 48 : 24;
            int height = plane == 0 ? 32 : 16;
            for (int i = 0; i < 150; i++) {
                int x = i * 7 % width;
                int y = i * 5 % height;
                checks.due("dot(0, " + plane + ", " + x + ", " + y + ")", reader.dot(0, plane, x, y), rising.dot(plane, x, y));
            }
        }
    }

    private static void noSuchDot() {
        checks.sentence("A DOT of a PLANE (0 to 2) of a shown PICTURE; NONE if there is none such.");
        ReelReader reader = checks.right("3 by 2", BitText.flatI(3, 2), 1);
        int[][] good = {{0, 0, 0, 0}, {0, 0, 47, 31}, {0, 1, 23, 15}, {0, 2, 23, 15}, {0, 2, 0, 0}};
        for (int[] call : good) {
            checks.due("a dot", reader.dot(call[0], call[1], call[2], call[3]), 128);
        }
        int[][] none = {{1, 0, 0, 0}, {-1, 0, 0, 0}, {19, 0, 0, 0}, {20, 0, 0, 0}, {LOWEST, 0, 0, 0}, {HIGHEST, 0, 0, 0},
            {0, 3, 0, 0}, {0, -1, 0, 0}, {0, LOWEST, 0, 0}, {0, HIGHEST, 0, 0},
            {0, 0, 48, 0}, {0, 0, -1, 0}, {0, 0, -1, 1}, {0, 0, LOWEST, 0}, {0, 0, HIGHEST, 0}, {0, 0, 48, 31},
            {0, 0, 0, 32}, {0, 0, 0, -1}, {0, 0, 47, -1}, {0, 0, 0, LOWEST}, {0, 0, 0, HIGHEST}, {0, 0, 0, 0x08000000},
            {0, 1, 24, 0}, {0, 1, 0, 16}, {0, 1, -1, 0}, {0, 1, 0, -1}, {0, 1, 23, 16}, {0, 1, 24, 15},
            {0, 2, 24, 0}, {0, 2, 0, 16}, {0, 2, -1, 0}, {0, 2, 0, -1}, {0, 2, 47, 31}};
        for (int[] call : none) {
            checks.due("dot(" + call[0] + ", " + call[1] + ", " + call[2] + ", " + call[3] + ")",
                    reader.dot(call[0], call[1], call[2], call[3]), NONE);
        }
    }

    private static void sums() {
        checks.sentence("The sum of all DOTS of a PLANE of a shown PICTURE, each times 1 and its number "
                + "(y WIDTH + x, of that PLANE's WIDTH)");
        int[][] sizes = {{1, 1}, {3, 2}, {2, 3}, {4, 1}, {1, 4}};
        for (int[] size : sizes) {
            ReelReader reader = checks.right("ramps", Ramp.both(size[0], size[1]), 2);
            for (int plane = 0; plane < 3; plane++) {
                checks.due("rising", reader.sum(0, plane), sumOf(Ramp.rising(size[0], size[1]), size, plane));
                checks.due("falling", reader.sum(1, plane), sumOf(Ramp.falling(size[0], size[1]), size, plane));
            }
        }
        ReelReader reader = checks.right("0", new BitText().head(1, 1).picture(I, 1, 0).flat(-128, 0, 0, 0, -127, 0), 1);
        checks.due("all 0", reader.sum(0, 0), 0);
        checks.due("all 1", reader.sum(0, 1), 2080);
    }

    private static int sumOf(Ramp ramp, int[] size, int plane) {
        int side = plane == 0 ? 16 : 8;
        int sum = 0;
        for (int y = 0; y < side * size[1]; y++) {
            for (int x = 0; x < side * size[0]; x++) {
                sum += ramp.dot(plane, x, y) * (1 + y * side * size[0] + x);
            }
        }
        return sum;
    }

    /** No sum is so high that it would go round. */
    private static void theHighestSum() {
        checks.sentence("going round at 32 bits;");
        BitText text = new BitText().head(4, 4).picture(I, 1, 0);
        for (int n = 0; n < 16; n++) {
            text.flat(n % 4 == 0 ? 127 : 0, 0, 0, 0, 0, 0);
        }
        checks.due("all 255", checks.right("all 255", text, 1).sum(0, 0), 255 * (4096 * 4097 / 2));
    }

    private static void noSuchSum() {
        checks.sentence("going round at 32 bits; NONE if there is none such.");
        ReelReader reader = checks.right("one", BitText.flatI(1, 1), 1);
        int[][] none = {{1, 0}, {-1, 0}, {0, 3}, {0, -1}, {19, 0}, {20, 0}, {LOWEST, 0}, {HIGHEST, 0},
            {0, LOWEST}, {0, HIGHEST}, {1, 3}};
        for (int[] call : none) {
            checks.due("sum(" + call[0] + ", " + call[1] + ")", reader.sum(call[0], call[1]), NONE);
        }
        checks.due("sum(0, 2)", reader.sum(0, 2), 266240);
    }
}
