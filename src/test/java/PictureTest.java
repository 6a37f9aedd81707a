/** Promises 5, 9: the dots, by streams small enough to be reckoned by hand. */
public final class PictureTest {
    private static final Checks checks = new Checks("picture");

    public static void main(String[] args) {
        flatBlocks();
        dcsAreForgotten();
        wholesAndHalves();
        otherPlanesAreHalved();
        foretoldVectors();
        backwardVectors();
        bothWays();
        passedOverInB();
        leansOnTheRightOne();
        levelsOfP();
        levelsOfInner();
        newQuantStays();
        checks.finish();
    }

    private static ReelReader read(String name, BitText text, int shown) {
        ReelReader reader = BitText.readerOf(text.end());
        checks.due(name + ": read()", reader.read(), shown);
        checks.due(name + ": wrong()", reader.wrong(), ReelReader.NONE);
        return reader;
    }

    private static void flatBlocks() {
        ReelReader reader = read("flat", new BitText().head(2, 2).picture(BitText.I, 8, 0)
                .flat(10, 0, 0, 1, 5, -5).flat(-8, 2, 0, 0, 0, 0)
                .flat(0, 0, 0, 0, 0, 0).flat(127, 0, 0, -255, -128, 127), 1);
        int[][] wanted = {{0, 0, 0, 138}, {0, 15, 7, 138}, {0, 7, 15, 138}, {0, 8, 8, 139}, {0, 15, 15, 139},
            {0, 16, 0, 131}, {0, 23, 7, 131}, {0, 24, 0, 133}, {0, 31, 15, 133},
            {0, 0, 16, 128}, {0, 15, 31, 128}, {0, 16, 16, 255}, {0, 23, 31, 255}, {0, 24, 24, 0}, {0, 31, 31, 0},
            {1, 0, 0, 133}, {1, 15, 7, 133}, {1, 7, 8, 128}, {1, 8, 8, 0}, {1, 15, 15, 0},
            {2, 7, 7, 123}, {2, 8, 0, 123}, {2, 0, 15, 128}, {2, 15, 15, 255}};
        for (int[] dot : wanted) {
            checks.due("flat: dot(0, " + dot[0] + ", " + dot[1] + ", " + dot[2] + ")",
                    reader.dot(0, dot[0], dot[1], dot[2]), dot[3]);
        }
        // A DC of any kind gives a flat block of just that.
        for (int dc = 0; dc < 256; dc++) {
            reader = read("DC", new BitText().head(1, 1).picture(BitText.I, 1, 0).flat(dc - 128, 0, 0, 0, 0, 0), 1);
            checks.due("DC " + dc, reader.sum(0, 0), 128 * 257 * dc);
        }
    }

    /** INNER, not INNER, INNER in a row: the last one's DCs begin anew. */
    private static void dcsAreForgotten() {
        String[] between = {"1 0 0 0 1", "1 0 1 0 1 1 1", "010", "1 1 0 111111111111 1"};
        int[] wanted = {129, 129, 129, 139};
        for (int i = 0; i < between.length; i++) {
            BitText text = flatRow(3, 0).picture(BitText.P, 8, 1).u(0).raw("1").flat(10, 0, 0, 0, 0, 0);
            ReelReader reader = read("forgotten DCs", text.raw(between[i]).raw("1").flat(1, 0, 0, 0, 0, 0), 2);
            checks.due("forgotten DCs: dot " + i, reader.dot(1, 0, 40, 4), wanted[i]);
        }
    }

    /** One row of squares; the columns of blocks of the first plane rise by step from 100 on. */
    private static BitText flatRow(int across, int step) {
        BitText text = new BitText().head(across, 1).picture(BitText.I, 8, 0);
        for (int i = 0; i < across; i++) {
            text.flat(i == 0 ? -28 : step, step, -step, step, 0, 0);
        }
        return text.align();
    }

    private static BitText fourBlocks() {
        return new BitText().head(1, 1).picture(BitText.I, 8, 0).flat(-118, 10, 10, 10, 0, 0).align();
    }

    private static void wholesAndHalves() {
        // The vector, then x, y and the dot: the blocks are 10, 20, 30 and 40.
        int[][] wanted = {{2, 0, 6, 0, 10}, {2, 0, 7, 0, 20}, {2, 0, 15, 0, 20}, {2, 0, 7, 15, 40},
            {1, 0, 6, 0, 10}, {1, 0, 7, 0, 15}, {1, 0, 8, 0, 20}, {1, 0, 15, 0, 20}, {1, 0, 7, 8, 35},
            {0, 1, 0, 6, 10}, {0, 1, 0, 7, 20}, {0, 1, 0, 8, 30}, {0, 1, 0, 15, 30}, {0, 1, 8, 7, 30},
            {1, 1, 7, 7, 25}, {1, 1, 7, 0, 15}, {1, 1, 0, 7, 20}, {1, 1, 15, 15, 40}, {1, 1, 15, 7, 30},
            {-1, 0, 0, 0, 10}, {-1, 0, 8, 0, 15}, {-1, 0, 7, 0, 10}, {-1, 0, 9, 0, 20},
            {0, -1, 0, 8, 20}, {-1, -1, 8, 8, 25}, {-1, -1, 0, 0, 10}, {-1, 1, 8, 7, 25}, {1, -1, 7, 8, 25},
            {-16, -16, 15, 15, 10}, {-16, 0, 15, 15, 30}, {15, 15, 0, 0, 25}, {15, 15, 1, 1, 40},
            {15, -16, 0, 0, 15}, {15, -16, 1, 15, 20}, {3, 0, 6, 0, 15}, {3, 0, 5, 0, 10}, {-3, 0, 9, 0, 15}};
        for (int[] one : wanted) {
            ReelReader reader = read("halves", fourBlocks().picture(BitText.P, 1, 1).u(0).raw("010")
                    .s(one[0]).s(one[1]), 2);
            checks.due("halves (" + one[0] + ", " + one[1] + "): dot(1, 0, " + one[2] + ", " + one[3] + ")",
                    reader.dot(1, 0, one[2], one[3]), one[4]);
        }
        ReelReader reader = read("far", fourBlocks().picture(BitText.P, 1, 7).u(0).raw("010").s(1023).s(-1024), 2);
        checks.due("far: sum", reader.sum(1, 0), 20 * 128 * 257);
        // (10 + 10 + 10 + 11 + 2) >> 2 is 10: the mean of two means would be 11.
        reader = read("four", new BitText().head(1, 1).picture(BitText.I, 8, 0).flat(-118, 0, 0, 1, 0, 0).align()
                .picture(BitText.P, 1, 1).u(0).raw("010").s(1).s(1), 2);
        checks.due("four: dot", reader.dot(1, 0, 7, 7), 10);
    }

    private static void otherPlanesAreHalved() {
        // The second plane is 50 on the left, 70 on the right: vector, square, x, dot.
        int[][] wanted = {{1, 0, 7, 50}, {2, 0, 7, 60}, {3, 0, 7, 60}, {4, 0, 7, 70}, {4, 0, 6, 50}, {5, 0, 7, 70},
            {6, 0, 6, 60}, {-1, 1, 8, 70}, {-2, 1, 8, 60}, {-3, 1, 8, 60}, {-4, 1, 8, 50}, {-4, 1, 9, 70}, {-6, 1, 9, 60}};
        for (int[] one : wanted) {
            BitText text = new BitText().head(2, 1).picture(BitText.I, 8, 0)
                    .flat(0, 0, 0, 0, -78, 0).flat(0, 0, 0, 0, 20, 0).align()
                    .picture(BitText.P, 1, 1).u(one[1]).raw("010").s(one[0]).s(0);
            ReelReader reader = read("other planes", one[1] == 0 ? text.u(1) : text, 2);
            checks.due("other planes (" + one[0] + "): dot(1, 1, " + one[2] + ", 3)",
                    reader.dot(1, 1, one[2], 3), one[3]);
        }
        int[][] down = {{1, 7, 50}, {2, 7, 60}, {3, 7, 60}, {4, 7, 70}};
        for (int[] one : down) {
            ReelReader reader = read("other planes", new BitText().head(1, 2).picture(BitText.I, 8, 0)
                    .flat(0, 0, 0, 0, 0, -78).flat(0, 0, 0, 0, 0, -58).align()
                    .picture(BitText.P, 1, 1).u(0).raw("010").s(0).s(one[0]).u(1), 2);
            checks.due("other planes down " + one[0], reader.dot(1, 2, 3, one[1]), one[2]);
        }
    }

    /** Columns of blocks 100, 110, .. 150: an odd vector shows by the one dot that is between. */
    private static void foretoldVectors() {
        BitText text = flatRow(3, 10).picture(BitText.P, 1, 2).u(0).raw("010").s(4).s(2).u(0).raw("010").s(1).s(-1).u(1);
        ReelReader reader = read("foretold", text, 2);
        checks.due("foretold: dot(1, 0, 20, 0)", reader.dot(1, 0, 20, 0), 120);
        checks.due("foretold: dot(1, 0, 21, 0)", reader.dot(1, 0, 21, 0), 125);
        checks.due("foretold: dot(1, 0, 22, 0)", reader.dot(1, 0, 22, 0), 130);
        String[] between = {"1 0 0 0", "1 0 0 1 0 000000", "010",
            "1 1 0 111111111111"};
        for (int i = 0; i < between.length; i++) {
            text = flatRow(3, 10).picture(BitText.P, 1, 2).u(0).raw("010").s(4).s(2).raw(between[i]);
            text.raw(i == 2 ? "" : "1").raw("010").s(1).s(0);
            reader = read("begun anew", text, 2);
            checks.due("begun anew: dot(1, 0, 38, 0) of " + i, reader.dot(1, 0, 38, 0), 140);
            checks.due("begun anew: dot(1, 0, 39, 0) of " + i, reader.dot(1, 0, 39, 0), 145);
        }
        reader = read("round", flatRow(3, 10).picture(BitText.P, 1, 1).u(0).raw("010").s(15).s(0)
                .u(0).raw("010").s(15).s(0).u(0).raw("010").s(-15).s(0), 2);
        checks.due("round: dot(1, 0, 16, 0)", reader.dot(1, 0, 16, 0), 110);
        checks.due("round: dot(1, 0, 17, 0)", reader.dot(1, 0, 17, 0), 120);
        // - 2 and - 15 more: - 17, which is 15.
        checks.due("round: dot(1, 0, 32, 0)", reader.dot(1, 0, 32, 0), 145);
        reader = read("rows", new BitText().head(1, 2).picture(BitText.I, 8, 0).flat(0, 20, -20, 20, 0, 0)
                .flat(0, 20, -20, 20, 0, 0).align().picture(BitText.P, 1, 1).u(0).raw("010").s(4).s(0)
                .u(0).raw("010").s(1).s(0), 2);
        checks.due("rows: dot(1, 0, 7, 20)", reader.dot(1, 0, 7, 20), 138);
    }

    private static void backwardVectors() {
        // Forward and backward vectors are foretold each by itself, also past a square without it.
        BitText text = flatRow(3, 10).picture(BitText.P, 1, 2).u(3).align().picture(BitText.B, 1, 2)
                .u(0).raw("0 01 0").s(3).s(0)
                .u(0).raw("0 10 0").s(5).s(0)
                .u(0).raw("0 01 0").s(2).s(0);
        ReelReader reader = read("backward", text, 3);
        checks.due("backward: dot(1, 0, 6, 0)", reader.dot(1, 0, 6, 0), 105);
        checks.due("backward: dot(1, 0, 21, 0)", reader.dot(1, 0, 21, 0), 125);
        checks.due("backward: dot(1, 0, 37, 0)", reader.dot(1, 0, 37, 0), 145);
    }

    private static BitText brightAndDark(int across) {
        BitText text = new BitText().head(across, 1).picture(BitText.I, 8, 0);
        for (int i = 0; i < across; i++) {
            text.flat(i == 0 ? -27 : 0, 0, 0, 0, 0, 0);
        }
        text.align().picture(BitText.P, 8, 1);
        for (int i = 0; i < across; i++) {
            text.raw("11").flat(i == 0 ? -78 : 0, 0, 0, 0, 0, 0);
        }
        return text.align();
    }

    private static void bothWays() {
        String[] ways = {"10 0 1 1", "01 0 1 1", "11 0 1 1 1 1"};
        int[] wanted = {101, 50, 76};
        for (int i = 0; i < ways.length; i++) {
            ReelReader reader = read("ways", brightAndDark(1).picture(BitText.B, 1, 1).u(0).raw("0").raw(ways[i]), 3);
            checks.due("ways: sum of " + i, reader.sum(1, 0), 128 * 257 * wanted[i]);
            checks.due("ways: shown(1, 0)", Checks.shown(reader, 1, 0), BitText.B);
            checks.due("ways: shown(2, 0)", Checks.shown(reader, 2, 0), BitText.P);
        }
    }

    private static void passedOverInB() {
        ReelReader reader = read("like the one ahead", brightAndDark(4).picture(BitText.B, 1, 1)
                .u(0).raw("0 11 0 1 1 1 1").u(1).raw("0 01 0 1 1").u(1), 3);
        int[] wanted = {76, 76, 50, 50};
        for (int i = 0; i < 4; i++) {
            checks.due("like the one ahead: square " + i, reader.dot(1, 0, 16 * i + 8, 8), wanted[i]);
        }
        checks.due("like the one ahead: passed over", Checks.shown(reader, 1, 3), 2);
        // With its vectors: both squares are moved by two dots and a half.
        reader = read("with its vectors", flatRow(3, 10).picture(BitText.P, 1, 2).u(3).align()
                .picture(BitText.B, 1, 2).u(0).raw("0 10 0").s(5).s(0).u(1).raw("0 10 0").s(0).s(0), 3);
        checks.due("with its vectors: dot(1, 0, 5, 0)", reader.dot(1, 0, 5, 0), 105);
        checks.due("with its vectors: dot(1, 0, 21, 0)", reader.dot(1, 0, 21, 0), 125);
        checks.due("with its vectors: dot(1, 0, 37, 0)", reader.dot(1, 0, 37, 0), 145);
    }

    /** I 130, P 140, I 150, then B and P: the older one is not the I at the begin. */
    private static void leansOnTheRightOne() {
        BitText text = new BitText().head(1, 1).picture(BitText.I, 8, 0).flat(2, 0, 0, 0, 0, 0).align()
                .picture(BitText.P, 8, 1).raw("11").flat(12, 0, 0, 0, 0, 0).align()
                .picture(BitText.I, 8, 0).flat(22, 0, 0, 0, 0, 0).align()
                .picture(BitText.B, 8, 1).u(0).raw("0 10 0 1 1").align()
                .picture(BitText.B, 8, 1).u(0).raw("0 01 0 1 1").align()
                .picture(BitText.P, 8, 1).u(1).align();
        ReelReader reader = read("leant on", text, 6);
        int[] dots = {130, 140, 140, 150, 150, 150};
        int[] numbers = {0, 1, 3, 4, 2, 5};
        for (int k = 0; k < 6; k++) {
            checks.due("leant on: dot of " + k, reader.dot(k, 0, 3, 3), dots[k]);
            checks.due("leant on: number of " + k, Checks.shown(reader, k, 1), numbers[k]);
        }
    }

    private static BitText codedFirst(int quant) {
        return flatRow(1, 0).picture(BitText.P, quant, 1).u(0).raw("0 0 1 0 100000");
    }

    private static void levelsOfP() {
        // QUANT, LEVEL at place 0, the dot: 100 and an eighth of (2 L + 1) QUANT, rounded.
        int[][] wanted = {{2, 5, 103}, {2, -5, 97}, {31, 5, 143}, {1, 1, 100}, {4, 1, 102}, {4, -1, 98},
            {31, 2047, 255}, {31, -2047, 0}, {1, 2047, 255}, {8, 1, 103}, {8, -1, 97}};
        for (int[] one : wanted) {
            ReelReader reader = read("LEVEL of P", codedFirst(one[0]).u(1).s(one[1]).u(0), 2);
            checks.due("LEVEL " + one[1] + " QUANT " + one[0], reader.dot(1, 0, 0, 0), one[2]);
            checks.due("LEVEL: next block", reader.dot(1, 0, 8, 0), 100);
            checks.due("LEVEL: next plane", reader.dot(1, 1, 0, 0), 128);
        }
        ReelReader reader = read("no LEVEL", codedFirst(31).u(0), 2);
        checks.due("no LEVEL: sum", reader.sum(1, 0), 128 * 257 * 100);
        int[][] places = {{0, 0}, {8, 0}, {0, 8}, {8, 8}};
        for (int b = 0; b < 6; b++) {
            reader = read("block", flatRow(1, 0).picture(BitText.P, 8, 1).u(0).raw("0 0 1 0").number(32 >> b, 6)
                    .u(1).s(1).u(0), 2);
            for (int i = 0; i < 6; i++) {
                int dot = i < 4 ? reader.dot(1, 0, places[i][0], places[i][1]) : reader.dot(1, i - 3, 0, 0);
                checks.due("block " + b + " of " + i, dot, (i < 4 ? 100 : 128) + (i == b ? 3 : 0));
            }
        }
    }

    /** A LEVEL at one place, against the cosines themselves. */
    private static void levelsOfInner() {
        int[] order = {0, 1, 8, 16, 9, 2, 3, 10, 17, 24};
        for (int step = 1; step <= 63; step++) {
            if (step >= order.length && step != 63) {
                continue;
            }
            int place = step == 63 ? 63 : order[step];
            ReelReader reader = read("cosines", new BitText().head(1, 1).picture(BitText.I, 5, 0)
                    .raw("0").s(0).u(step).s(-40).u(0).raw("11 11 11 11 11"), 1);
            int u = place % 8;
            int v = place / 8;
            int factor = -(40 * (8 + 2 * (u + v)) * 5 / 8);
            for (int i = 0; i < 64; i++) {
                double wave = Math.cos((2 * (i % 8) + 1) * u * Math.PI / 16) * Math.cos((2 * (i / 8) + 1) * v * Math.PI / 16);
                double scale = (u == 0 ? Math.sqrt(0.5) : 1) * (v == 0 ? Math.sqrt(0.5) : 1) / 4;
                double ideal = Math.max(0, Math.min(255, 128 + factor * wave * scale));
                int dot = reader.dot(0, 0, i % 8, i / 8);
                checks.due("cosines: place " + place + " dot " + i + " is " + dot + " near " + ideal,
                        Math.abs(dot - ideal) < 1.3, true);
            }
        }
    }

    private static void newQuantStays() {
        // QUANT 2, then 31 from the second square on, and 2 again in the next picture.
        BitText text = flatRow(3, 0).picture(BitText.P, 2, 1)
                .u(0).raw("0 0 1 0 100000").u(1).s(5).u(0)
                .u(0).raw("0 0 1 1 11111 100000").u(1).s(5).u(0)
                .u(0).raw("0 0 1 0 100000").u(1).s(5).u(0).align()
                .picture(BitText.P, 2, 1).u(0).raw("0 0 1 0 100000").u(1).s(5).u(0).u(2);
        ReelReader reader = read("QUANT", text, 3);
        checks.due("QUANT: first", reader.dot(1, 0, 0, 0), 103);
        checks.due("QUANT: second", reader.dot(1, 0, 16, 0), 143);
        checks.due("QUANT: third", reader.dot(1, 0, 32, 0), 143);
        checks.due("QUANT: next picture", reader.dot(2, 0, 0, 0), 106);
    }
}
