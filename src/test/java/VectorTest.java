/** Terms 2: the vectors, those foretold and those read, sentence by sentence. */
public final class VectorTest {
    private static final Checks checks = new Checks("vector");
    private static final int I = BitText.I;
    private static final int P = BitText.P;
    private static final int B = BitText.B;
    private static final String FORETOLD = "At the begin of each row, behind each INNER SQUARE, and in P behind each "
            + "that is passed over or does not MOVE, the VECTORS foretold (one forward, one backward) are 0;";
    private static final String REACH = "so that it is from - R / 2 to R / 2 - 1";

    public static void main(String[] args) {
        rowsOfP();
        rowsOfB();
        picturesBeginARow();
        behindInnerOfP();
        behindInnerOfB();
        behindThoseOfPWithoutOne();
        passedOverOfBKeepThem();
        readOnesAreForetold();
        eachWayByItself();
        ofEachWayThatIsTold();
        withoutMovingItIsZero();
        withinItsReach();
        goesRound();
        doesNotGoRound();
        stepsBeyondTheReach();
        checks.finish();
    }

    private static BitText risingFirst(int across, int down) {
        return Ramp.rising(across, down).write(new BitText().head(across, down), I);
    }

    private static void isRising(String what, ReelReader reader, int k, int[] size, int[] square, int a, int d) {
        Ramp.rising(size[0], size[1]).isMoved(checks, what, reader, k, square, a, d);
    }

    private static void isFalling(String what, ReelReader reader, int k, int[] size, int[] square, int a, int d) {
        Ramp.falling(size[0], size[1]).isMoved(checks, what, reader, k, square, a, d);
    }

    private static void rowsOfP() {
        checks.sentence(FORETOLD);
        int[] size = {2, 2};
        BitText text = risingFirst(2, 2).picture(P, 1, 2).u(0).raw("0 1 0").s(9).s(-5).u(0).raw("0 1 0").s(0).s(0)
                .u(0).raw("0 1 0").s(3).s(2).u(0).raw("0 1 0").s(0).s(0);
        ReelReader reader = checks.right("rows of P", text, 2);
        isRising("the first", reader, 1, size, new int[] {0, 0}, 9, -5);
        isRising("behind it", reader, 1, size, new int[] {1, 0}, 9, -5);
        isRising("the next row", reader, 1, size, new int[] {0, 1}, 3, 2);
        isRising("behind that", reader, 1, size, new int[] {1, 1}, 3, 2);
    }

    private static void rowsOfB() {
        checks.sentence(FORETOLD);
        int[] size = {2, 3};
        BitText text = Ramp.both(2, 3).picture(B, 1, 2).u(0).raw("0 11 0").s(9).s(-5).s(-7).s(11).u(1)
                .raw("0 10 0").s(3).s(2).u(1).raw("0 01 0").s(-2).s(1).u(0).raw("0 01 0").s(0).s(0);
        ReelReader reader = checks.right("rows of B", text, 3);
        isRising("forward", reader, 1, size, new int[] {0, 1}, 3, 2);
        isFalling("backward", reader, 1, size, new int[] {0, 2}, -2, 1);
        isFalling("behind that", reader, 1, size, new int[] {1, 2}, -2, 1);
    }

    private static void picturesBeginARow() {
        checks.sentence(FORETOLD);
        int[] size = {1, 1};
        int[] only = {0, 0};
        BitText text = risingFirst(1, 1).picture(P, 1, 2).u(0).raw("0 1 0").s(9).s(-5).align();
        text = Ramp.rising(1, 1).write(text, I).picture(P, 1, 2).u(0).raw("0 1 0").s(3).s(2);
        isRising("P behind P", checks.right("P behind P", text, 4), 3, size, only, 3, 2);
        text = Ramp.both(1, 1).picture(B, 1, 2).u(0).raw("0 11 0").s(9).s(-5).s(-7).s(11).align()
                .picture(B, 1, 2).u(0).raw("0 10 0").s(3).s(2).align().picture(B, 1, 2).u(0).raw("0 01 0").s(1).s(-4);
        ReelReader reader = checks.right("B behind B", text, 5);
        isRising("forward", reader, 2, size, only, 3, 2);
        isFalling("backward", reader, 3, size, only, 1, -4);
    }

    private static void behindInnerOfP() {
        checks.sentence(FORETOLD);
        int[] size = {3, 1};
        BitText text = risingFirst(3, 1).picture(P, 1, 2).u(0).raw("0 1 0").s(9).s(-5).u(0).raw("1").flat()
                .u(0).raw("0 1 0").s(3).s(2);
        isRising("INNER of P", checks.right("INNER of P", text, 2), 1, size, new int[] {2, 0}, 3, 2);
    }

    private static void behindInnerOfB() {
        checks.sentence(FORETOLD);
        int[] size = {4, 1};
        BitText text = Ramp.both(4, 1).picture(B, 1, 2).u(0).raw("0 11 0").s(9).s(-5).s(-7).s(11).u(0).raw("1").flat()
                .u(0).raw("0 10 0").s(3).s(2).u(0).raw("0 01 0").s(-1).s(4);
        ReelReader reader = checks.right("INNER of B", text, 3);
        isRising("forward", reader, 1, size, new int[] {2, 0}, 3, 2);
        isFalling("backward", reader, 1, size, new int[] {3, 0}, -1, 4);
    }

    private static void behindThoseOfPWithoutOne() {
        checks.sentence("in P behind each that is passed over or does not MOVE, the VECTORS foretold "
                + "(one forward, one backward) are 0;");
        int[] size = {3, 1};
        String[] between = {"010", "1 0 0 0 1", "1 0 0 1 0 000000 1", "1 0 0 1 0 000010 1 1"};
        for (String bits : between) {
            BitText text = risingFirst(3, 1).picture(P, 1, 2).u(0).raw("0 1 0").s(9).s(-5).raw(bits).raw("0 1 0").s(3).s(2);
            isRising("behind " + bits, checks.right(bits, text, 2), 1, size, new int[] {2, 0}, 3, 2);
        }
    }

    private static void passedOverOfBKeepThem() {
        checks.sentence("each VECTOR that is read is the one foretold from then on.");
        int[] size = {4, 1};
        BitText text = Ramp.both(4, 1).picture(B, 1, 2).u(0).raw("0 11 0").s(9).s(-5).s(-7).s(11).u(1)
                .raw("0 10 0").s(2).s(1).u(0).raw("0 01 0").s(1).s(-2);
        ReelReader reader = checks.right("passed over of B", text, 3);
        isRising("forward", reader, 1, size, new int[] {2, 0}, 11, -4);
        isFalling("backward", reader, 1, size, new int[] {3, 0}, -6, 9);
    }

    private static void readOnesAreForetold() {
        checks.sentence("each VECTOR that is read is the one foretold from then on.");
        int[] size = {4, 1};
        int[][] steps = {{5, -3}, {2, 1}, {-10, 4}, {0, -9}};
        BitText text = risingFirst(4, 1).picture(P, 1, 2);
        for (int[] step : steps) {
            text.u(0).raw("0 1 0").s(step[0]).s(step[1]);
        }
        ReelReader reader = checks.right("one behind another", text, 2);
        int[][] wanted = {{5, -3}, {7, -2}, {-3, 2}, {-3, -7}};
        for (int n = 0; n < 4; n++) {
            isRising("square " + n, reader, 1, size, new int[] {n, 0}, wanted[n][0], wanted[n][1]);
        }
    }

    private static void eachWayByItself() {
        checks.sentence("the VECTORS foretold (one forward, one backward)");
        int[] size = {4, 1};
        BitText text = Ramp.both(4, 1).picture(B, 1, 2).u(0).raw("0 10 0").s(5).s(-3).u(0).raw("0 01 0").s(4).s(6)
                .u(0).raw("0 10 0").s(1).s(2).u(0).raw("0 01 0").s(-9).s(1);
        ReelReader reader = checks.right("by turns", text, 3);
        isRising("forward", reader, 1, size, new int[] {0, 0}, 5, -3);
        isFalling("backward", reader, 1, size, new int[] {1, 0}, 4, 6);
        isRising("forward again", reader, 1, size, new int[] {2, 0}, 6, -1);
        isFalling("backward again", reader, 1, size, new int[] {3, 0}, -5, 7);
    }

    private static void ofEachWayThatIsTold() {
        checks.sentence("Then of each way that is told (of P: forward, if it MOVES; else its VECTOR is 0) a VECTOR: "
                + "two S, across, then down:");
        Ramp rising = Ramp.rising(2, 1);
        Ramp falling = Ramp.falling(2, 1);
        // Of both ways the forward one comes first; a new QUANT comes ahead of them, the blocks behind.
        BitText text = Ramp.both(2, 1).picture(B, 1, 2).u(0).raw("0 11 1 1 11111").s(5).s(-3).s(-8).s(6).raw("000001").u(0)
                .u(0).raw("0 11 1 0").s(0).s(0).s(0).s(0).raw("000000");
        ReelReader reader = checks.right("both", text, 3);
        for (int x = 0; x < 32; x++) {
            for (int y = 0; y < 16; y += 3) {
                int f = rising.moved(0, x, y, 5, -3);
                int b = falling.moved(0, x, y, -8, 6);
                checks.due("both: dot " + x + ", " + y, reader.dot(1, 0, x, y), (f + b + 1) >> 1);
            }
        }
    }

    private static void withoutMovingItIsZero() {
        checks.sentence("(of P: forward, if it MOVES; else its VECTOR is 0)");
        int[] size = {2, 1};
        String[] unmoved = {"0 0 0", "0 0 1 0 000000", "0 0 1 1 11111 000000"};
        for (String bits : unmoved) {
            BitText text = risingFirst(2, 1).picture(P, 1, 2).u(0).raw("0 1 0").s(9).s(-5).u(0).raw(bits);
            isRising(bits, checks.right(bits, text, 2), 1, size, new int[] {1, 0}, 0, 0);
        }
    }

    /** Squares of P in a row, with these steps across and the opposite ones, less by 1, down. */
    private static ReelReader walked(int span, int... steps) {
        BitText text = risingFirst(4, 1).picture(P, 1, span);
        for (int step : steps) {
            text.u(0).raw("0 1 0").s(step).s(-step - 1);
        }
        return checks.right("SPAN " + span, steps.length == 4 ? text : text.u(4 - steps.length), 2);
    }

    private static void isWalked(int span, int n, int[] steps, int across, int down) {
        isRising("SPAN " + span, walked(span, steps), 1, new int[] {4, 1}, new int[] {n, 0}, across, down);
    }

    private static void withinItsReach() {
        checks.sentence(REACH);
        for (int span = 1; span <= 7; span++) {
            int half = 8 << span;
            isWalked(span, 0, new int[] {half - 1}, half - 1, -half);
            isWalked(span, 0, new int[] {-half}, -half, half - 1);
            isWalked(span, 1, new int[] {half - 1, -half + 4}, 3, -5);
        }
    }

    /** Beyond an end by one it is at the other end: a step that follows brings it where it shows. */
    private static void goesRound() {
        checks.sentence(REACH);
        for (int span = 1; span <= 7; span++) {
            int half = 8 << span;
            // Across: R / 2 - 1, then R / 2, which is - R / 2, then - 1; down it goes the other way.
            isWalked(span, 1, new int[] {half - 1, 1, half - 1}, -half, half - 2);
            isWalked(span, 2, new int[] {half - 1, 1, half - 1}, -1, -2);
            isWalked(span, 1, new int[] {half - 1, half - 1}, -2, 0);
            isWalked(span, 1, new int[] {-half, -half}, 0, -2);
            isWalked(span, 1, new int[] {-half, -1, -half}, half - 1, half - 1);
            isWalked(span, 2, new int[] {-half, -1, -half}, -1, -2);
        }
    }

    private static void doesNotGoRound() {
        checks.sentence("each the one foretold, more by that, and R = 2^(4 + SPAN) more or less, or not,");
        for (int span = 1; span <= 7; span++) {
            int half = 8 << span;
            // Up to the last one in two steps, and back from there.
            isWalked(span, 1, new int[] {half - 3, 2, -half + 3}, half - 1, half - 1);
            isWalked(span, 2, new int[] {half - 3, 2, -half + 3}, 2, -5);
            isWalked(span, 1, new int[] {-half + 2, -2, half - 1}, -half, half - 2);
            isWalked(span, 2, new int[] {-half + 2, -2, half - 1}, -1, -2);
        }
    }

    private static void stepsBeyondTheReach() {
        checks.sentence("(wrong at the S's first bit, if S is not from - R / 2 to R / 2 - 1).");
        for (int span = 1; span <= 7; span++) {
            int half = 8 << span;
            int[] beyond = {half, -half - 1, half + 1, 2 * half, -2 * half, 1048575, -1048575};
            for (int step : beyond) {
                String what = "SPAN " + span + ", " + step;
                BitText head = BitText.flatI(2, 1).picture(P, 1, span).u(0).raw("0 1 0");
                ReelReader reader = checks.wrongHere(what + " across", head.here().s(step).s(0).end(), 0);
                checks.looks(what, reader, 32, 16, 1, 1, 2, 0, 12, 0);
                head = BitText.flatI(2, 1).picture(P, 1, span).u(0).raw("0 1 0").s(3);
                checks.wrongHere(what + " down", head.here().s(step).end(), 0);
                // Also where the vector itself would be within its reach.
                head = BitText.flatI(2, 1).picture(P, 1, span).u(0).raw("0 1 0").s(-5).s(5).u(0).raw("0 1 0");
                checks.wrongHere(what + " from - 5", head.here().s(step).s(0).end(), 0);
                head = BitText.twoToLeanOn(1, 1).picture(B, 1, span).u(0).raw("0 11 0").s(1).s(2);
                checks.wrongHere(what + " backward across", head.here().s(step).s(0).end(), 0);
                head = BitText.twoToLeanOn(1, 1).picture(B, 1, span).u(0).raw("0 11 0").s(1).s(2).s(-1);
                checks.wrongHere(what + " backward down", head.here().s(step).end(), 0);
            }
        }
    }
}
