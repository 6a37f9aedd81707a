/** Terms 2: the squares, what is foretold for them and what is passed over, sentence by sentence. */
public final class SquareTest {
    private static final Checks checks = new Checks("square");
    private static final int I = BitText.I;
    private static final int P = BitText.P;
    private static final int B = BitText.B;

    public static void main(String[] args) {
        rowByRow();
        dcsAtARowsBegin();
        dcsBehindThoseOfP();
        dcsBehindThoseOfB();
        passedOverBeyondTheLast();
        passedOverUpToTheLast();
        theNextUnsigned();
        passedOverInP();
        passedOverInB();
        passedOverBehindNone();
        passedOverBehindInner();
        passedOverBeyondTheRow();
        firstBits();
        neitherWay();
        neitherMovesNorCoded();
        newQuants();
        newQuantOfZero();
        newQuantStays();
        whichBlocks();
        checks.finish();
    }

    private static void flatIs(String what, ReelReader reader, int k, int column, int row, int... wanted) {
        checks.due(what + ": first plane", reader.dot(k, 0, 16 * column + 5, 16 * row + 5), wanted[0]);
        checks.due(what + ": second plane", reader.dot(k, 1, 8 * column + 5, 8 * row + 5), wanted[1]);
        checks.due(what + ": third plane", reader.dot(k, 2, 8 * column + 5, 8 * row + 5), wanted[2]);
    }

    /** The begin of a picture of a sort, behind as many as it may lean on; it is shown as sort - 1. */
    private static BitText begun(int sort, int across, int down) {
        BitText text = sort == I ? new BitText().head(across, down)
                : sort == P ? BitText.flatI(across, down) : BitText.twoToLeanOn(across, down);
        return text.picture(sort, 8, 1);
    }

    /** A B is shown ahead of the P that it leans on. */
    private static int shownAs(int sort) {
        return sort == I ? 0 : 1;
    }

    private static void rowByRow() {
        checks.sentence("SQUARES come row by row.");
        BitText text = new BitText().head(3, 2).picture(I, 8, 0);
        for (int n = 0; n < 6; n++) {
            text.flat(n % 3 == 0 ? 10 * n : 10, 0, 0, 0, 0, 0);
        }
        ReelReader reader = checks.right("row by row", text, 1);
        for (int n = 0; n < 6; n++) {
            checks.due("square " + n, reader.dot(0, 0, 16 * (n % 3), 16 * (n / 3)), 128 + 10 * n);
        }
    }

    private static void dcsAtARowsBegin() {
        checks.sentence("At the begin of each row, and behind each SQUARE that is not INNER (passed over ones, too), "
                + "the DCS of the three PLANES are 128.");
        for (int sort = I; sort <= B; sort++) {
            String inner = sort == I ? "" : "11";
            BitText text = begun(sort, 2, 2).raw(inner).flat(10, 0, 0, 0, 20, 30).raw(inner).flat(-1, 0, 0, 0, -2, -3)
                    .raw(inner).flat().raw(inner).flat(7, 0, 0, 0, 8, 9);
            ReelReader reader = checks.right("rows of SORT " + sort, text, sort);
            flatIs("first", reader, shownAs(sort), 0, 0, 138, 148, 158);
            flatIs("behind it", reader, shownAs(sort), 1, 0, 137, 146, 155);
            flatIs("the next row", reader, shownAs(sort), 0, 1, 128, 128, 128);
            flatIs("behind that", reader, shownAs(sort), 1, 1, 135, 136, 137);
        }
    }

    private static void dcsBehind(String what, int sort, int across, String between, int... wanted) {
        BitText text = begun(sort, across, 1).raw("1 1").flat(10, 0, 0, 0, 20, 30).raw(between).raw("1").flat(1, 0, 0, 0, 2, 3);
        ReelReader reader = checks.right(what, text, sort);
        flatIs(what, reader, 1, across - 1, 0, wanted);
    }

    private static void dcsBehindThoseOfP() {
        checks.sentence("behind each SQUARE that is not INNER (passed over ones, too), the DCS of the three PLANES are 128.");
        dcsBehind("P: INNER", P, 3, "1 1 0 11 11 11 11 11 11 1", 139, 150, 161);
        dcsBehind("P: one passed over", P, 3, "010", 129, 130, 131);
        dcsBehind("P: two passed over", P, 4, "011", 129, 130, 131);
        dcsBehind("P: neither MOVES nor CODED", P, 3, "1 0 0 0 1", 129, 130, 131);
        dcsBehind("P: CODED", P, 3, "1 0 0 1 0 000000 1", 129, 130, 131);
        dcsBehind("P: CODED with a block", P, 3, "1 0 0 1 0 000001 1 1", 129, 130, 131);
        dcsBehind("P: MOVES", P, 3, "1 0 1 0 1 1 1", 129, 130, 131);
        dcsBehind("P: none between", P, 2, "1", 139, 150, 161);
    }

    private static void dcsBehindThoseOfB() {
        checks.sentence("behind each SQUARE that is not INNER (passed over ones, too), the DCS of the three PLANES are 128.");
        dcsBehind("B: INNER", B, 3, "1 1 0 11 11 11 11 11 11 1", 139, 150, 161);
        dcsBehind("B: FORWARD", B, 3, "1 0 10 0 1 1 1", 129, 130, 131);
        dcsBehind("B: BACKWARD", B, 3, "1 0 01 0 1 1 1", 129, 130, 131);
        dcsBehind("B: both", B, 3, "1 0 11 0 1 1 1 1 1", 129, 130, 131);
        dcsBehind("B: passed over", B, 4, "1 0 10 0 1 1 010", 129, 130, 131);
    }

    private static void passedOverBeyondTheLast() {
        checks.sentence("In P and B there is first a U: how many SQUARES are PASSED OVER; wrong at its first bit, "
                + "if that goes beyond the last one of the PICTURE;");
        int[][] sizes = {{1, 1}, {3, 2}, {4, 4}};
        for (int[] size : sizes) {
            int count = size[0] * size[1];
            int[] beyond = {count + 1, count + 2, 64, 2097150};
            for (int over : beyond) {
                BitText text = begun(P, size[0], size[1]).here().u(over).end();
                ReelReader reader = checks.wrongHere(over + " of " + count, text, 0);
                checks.looks(over + " of " + count, reader, 16 * size[0], 16 * size[1], 1, 1, count, 0, 6 * count, 0);
            }
        }
        BitText text = begun(P, 3, 2).u(2).raw("0 0 0").here().u(4).end();
        checks.looks("4 of the last 3", checks.wrongHere("4 of the last 3", text, 0), 48, 32, 1, 1, 7, 2, 36, 0);
        text = begun(P, 3, 2).u(4).raw("0 0 0").here().u(2).end();
        checks.looks("2 of the last one", checks.wrongHere("2 of the last one", text, 0), 48, 32, 1, 1, 7, 4, 36, 0);
        text = begun(B, 2, 1).u(0).raw("0 10 0 1 1").here().u(2).end();
        checks.looks("B: 2 of the last one", checks.wrongHere("B: 2 of the last one", text, 0), 32, 16, 2, 2, 3, 2, 12, 0);
    }

    private static void passedOverUpToTheLast() {
        checks.sentence("if it goes up to the last one no SQUARE comes behind it;");
        int[][] sizes = {{1, 1}, {3, 2}, {4, 4}};
        for (int[] size : sizes) {
            int count = size[0] * size[1];
            // A P follows: what a square would take for its bits is the next picture.
            BitText text = begun(P, size[0], size[1]).u(count).align().picture(P, 1, 1).u(count);
            ReelReader reader = checks.right("all of " + count, text, 3);
            checks.looks("all of " + count, reader, 16 * size[0], 16 * size[1], 3, 3, count, 2 * count, 6 * count, 0);
        }
        checks.right("up to the last one", begun(P, 3, 2).u(2).raw("0 0 0").u(3), 2);
        checks.right("the last one", begun(P, 3, 2).u(4).raw("0 0 0").u(1), 2);
        checks.right("B: the last one", begun(B, 2, 1).u(0).raw("0 10 0 1 1").u(1), 3);
    }

    private static void theNextUnsigned() {
        checks.sentence("else one comes, and then, if that was not the last one, the next U.");
        ReelReader reader = checks.right("none passed over", begun(P, 2, 1).u(0).raw("0 0 0").u(0).raw("0 0 0"), 2);
        checks.looks("none passed over", reader, 32, 16, 2, 2, 4, 0, 12, 0);
        reader = checks.right("no U behind the last one", begun(P, 3, 1).u(2).raw("0 0 0"), 2);
        checks.looks("no U behind the last one", reader, 48, 16, 2, 2, 4, 2, 18, 0);
        BitText text = begun(P, 1, 1).u(0).raw("0 0 0").here().raw("1").end();
        checks.wrongHere("a U behind the last one", text, 0);
        text = begun(B, 1, 1).u(0).raw("0 10 0 1 1 0").here().raw("1").end();
        checks.wrongHere("B: a U behind the last one", text, 0);
        reader = checks.right("by turns", begun(P, 4, 2).u(1).raw("0 0 0").u(2).raw("0 0 0").u(0).raw("0 0 0").u(2), 2);
        checks.looks("by turns", reader, 64, 32, 2, 2, 11, 5, 48, 0);
    }

    private static void passedOverInP() {
        checks.sentence("A PASSED OVER SQUARE of P is what is at its place in the PICTURE leant on.");
        Ramp rising = Ramp.rising(3, 2);
        Ramp falling = Ramp.falling(3, 2);
        BitText text = rising.write(new BitText().head(3, 2), I);
        // The vector ahead of the passed over ones is none of theirs.
        text.picture(P, 1, 1).u(0).raw("0 1 0").s(5).s(-7).u(4).raw("0 0 0");
        ReelReader reader = checks.right("P", text, 2);
        rising.isMoved(checks, "P: ahead", reader, 1, new int[] {0, 0}, 5, -7);
        for (int n = 1; n < 6; n++) {
            rising.isMoved(checks, "P: square " + n, reader, 1, new int[] {n % 3, n / 3}, 0, 0);
        }
        text = falling.write(rising.write(new BitText().head(3, 2), I), P).picture(P, 1, 1).u(6);
        reader = checks.right("P behind P", text, 3);
        falling.isMoved(checks, "P behind P", reader, 2, new int[] {1, 1}, 0, 0);
        for (int plane = 0; plane < 3; plane++) {
            checks.due("P behind P: sum", reader.sum(2, plane), reader.sum(1, plane));
        }
    }

    private static void passedOverInB() {
        checks.sentence("One of B is foretold like the SQUARE ahead of it (which was FORWARD, BACKWARD or both) "
                + "with that one's VECTORS;");
        Ramp rising = Ramp.rising(4, 1);
        Ramp falling = Ramp.falling(4, 1);
        // One that is CODED, too: its blocks are its own.
        BitText[] ahead = {new BitText().raw("0").s(5).s(-7),
            new BitText().raw("1 0").s(5).s(-7).raw("100011").u(1).s(20).u(0).u(1).s(20).u(0).u(1).s(20).u(0)};
        for (BitText one : ahead) {
            BitText text = Ramp.both(4, 1).picture(B, 8, 2).u(0).raw("0 10").raw(one.toString())
                    .u(2).raw("0 01 0").s(3).s(2);
            ReelReader reader = checks.right("B: FORWARD", text, 3);
            rising.isMoved(checks, "B: FORWARD, 1", reader, 1, new int[] {1, 0}, 5, -7);
            rising.isMoved(checks, "B: FORWARD, 2", reader, 1, new int[] {2, 0}, 5, -7);
            falling.isMoved(checks, "B: the next one", reader, 1, new int[] {3, 0}, 3, 2);
        }
        BitText text = Ramp.both(4, 1).picture(B, 1, 2).u(0).raw("0 10 0").s(5).s(-7)
                .u(0).raw("0 01 0").s(-3).s(9).u(2);
        ReelReader reader = checks.right("B: BACKWARD", text, 3);
        falling.isMoved(checks, "B: BACKWARD, 1", reader, 1, new int[] {2, 0}, -3, 9);
        falling.isMoved(checks, "B: BACKWARD, 2", reader, 1, new int[] {3, 0}, -3, 9);
        text = Ramp.both(4, 1).picture(B, 1, 2).u(0).raw("0 11 0").s(5).s(-7).s(-3).s(9).u(3);
        reader = checks.right("B: both", text, 3);
        for (int x = 0; x < 64; x++) {
            int f = rising.moved(0, x, 4, 5, -7);
            int b = falling.moved(0, x, 4, -3, 9);
            checks.due("B: both, dot " + x, reader.dot(1, 0, x, 4), (f + b + 1) >> 1);
        }
    }

    private static void passedOverBehindNone() {
        checks.sentence("wrong at the U's first bit, if the one ahead was INNER or there is none in its row");
        for (int over = 1; over <= 4; over++) {
            ReelReader reader = checks.wrongHere("the first " + over, begun(B, 3, 2).here().u(over).end(), 0);
            checks.looks("the first " + over, reader, 48, 32, 2, 2, 6, 6, 36, 0);
        }
        // Ahead of it there is one of the row above, which does not count.
        BitText text = begun(B, 1, 2).u(0).raw("0 10 0 1 1").here().u(1).end();
        checks.wrongHere("one by two", text, 0);
        text = begun(B, 2, 2).u(0).raw("0 10 0 1 1").u(0).raw("0 10 0 1 1").here().u(1).end();
        checks.wrongHere("behind a read one of the row above", text, 0);
        text = begun(B, 2, 2).u(0).raw("0 10 0 1 1").u(1).raw("0 10 0 1 1").here().u(1);
        checks.right("behind the row's first", text, 3);
    }

    private static void passedOverBehindInner() {
        checks.sentence("wrong at the U's first bit, if the one ahead was INNER or there is none in its row");
        for (int over = 1; over <= 2; over++) {
            BitText text = begun(B, 4, 1).u(0).raw("0 10 0 1 1").u(0).raw("1").flat().here().u(over).end();
            ReelReader reader = checks.wrongHere("behind INNER", text, 0);
            checks.looks("behind INNER", reader, 64, 16, 2, 2, 6, 4, 30, 0);
        }
        checks.right("none behind INNER", begun(B, 2, 1).u(0).raw("1").flat().u(0).raw("0 10 0 1 1"), 3);
        checks.right("behind one behind INNER", begun(B, 3, 1).u(0).raw("1").flat().u(0).raw("0 10 0 1 1").u(1), 3);
        // In P that is no matter.
        checks.right("P: behind INNER", begun(P, 2, 1).u(0).raw("1").flat().u(1), 2);
    }

    private static void passedOverBeyondTheRow() {
        checks.sentence("(of any of them: none of them is passed over then).");
        BitText text = begun(B, 3, 2).u(0).raw("0 10 0 1 1").here().u(3).end();
        ReelReader reader = checks.wrongHere("one beyond the row", text, 0);
        checks.looks("one beyond the row", reader, 48, 32, 2, 2, 7, 6, 36, 0);
        text = begun(B, 3, 2).u(0).raw("0 10 0 1 1").here().u(5).end();
        checks.wrongHere("up to the last one", text, 0);
        text = begun(B, 3, 2).u(0).raw("0 10 0 1 1").u(1).raw("0 10 0 1 1").here().u(2).end();
        reader = checks.wrongHere("two at the row's end", text, 0);
        checks.looks("two at the row's end", reader, 48, 32, 2, 2, 8, 7, 36, 0);
        reader = checks.right("up to both rows' ends", begun(B, 3, 2).u(0).raw("0 10 0 1 1").u(2)
                .raw("0 10 0 1 1").u(2), 3);
        checks.looks("up to both rows' ends", reader, 48, 32, 3, 3, 8, 10, 36, 0);
        checks.right("P: beyond the row", begun(P, 3, 2).u(2).raw("0 0 0").u(2).raw("0 0 0"), 2);
    }

    private static void firstBits() {
        checks.sentence("A SQUARE: in I it is INNER. In P a bit: 1 INNER; else a bit MOVES. In B a bit: 1 INNER; "
                + "else two bits: FORWARD, BACKWARD");
        ReelReader reader = checks.right("I", begun(I, 2, 1).raw("0 11 11 11 11 11 11 0 11 11 11 11 11 11"), 1);
        checks.due("I: INNER", Checks.shown(reader, 0, 2), 2);
        reader = checks.right("P", begun(P, 3, 1).raw("1 1 0 11 11 11 11 11 11  1 0 1 0 1 1  1 0 0 0"), 2);
        checks.due("P: INNER", Checks.shown(reader, 1, 2), 1);
        Ramp rising = Ramp.rising(4, 1);
        Ramp falling = Ramp.falling(4, 1);
        reader = checks.right("B", Ramp.both(4, 1).picture(B, 8, 1)
                .raw("1 1 0 11 11 11 11 11 11  1 0 10 0 1 1  1 0 01 0 1 1  1 0 11 0 1 1 1 1"), 3);
        checks.due("B: INNER", Checks.shown(reader, 1, 2), 1);
        flatIs("B: INNER", reader, 1, 0, 0, 128, 128, 128);
        rising.isMoved(checks, "B: FORWARD", reader, 1, new int[] {1, 0}, 0, 0);
        falling.isMoved(checks, "B: BACKWARD", reader, 1, new int[] {2, 0}, 0, 0);
        int mixed = (rising.dot(0, 50, 5) + falling.dot(0, 50, 5) + 1) >> 1;
        checks.due("B: both", reader.dot(1, 0, 50, 5), mixed);
    }

    private static void neitherWay() {
        checks.sentence("FORWARD, BACKWARD (wrong at the second one, if both are 0).");
        ReelReader reader = checks.wrongHere("neither", begun(B, 2, 1).u(0).raw("0").here().raw("00 1 1").end(), 1);
        checks.looks("neither", reader, 32, 16, 2, 2, 2, 2, 12, 0);
        BitText text = begun(B, 2, 1).u(0).raw("0 10 0 1 1").u(0).raw("0").here().raw("00 0").end();
        checks.wrongHere("neither of the second one", text, 1);
    }

    private static void neitherMovesNorCoded() {
        checks.sentence("Of all that are not INNER then a bit CODED; a P one that neither MOVES nor is CODED is allowed.");
        Ramp rising = Ramp.rising(2, 1);
        BitText text = rising.write(new BitText().head(2, 1), I).picture(P, 1, 1).u(0).raw("0 0 0").u(0).raw("0 0 0");
        ReelReader reader = checks.right("neither", text, 2);
        checks.looks("neither", reader, 32, 16, 2, 2, 4, 0, 12, 0);
        rising.isMoved(checks, "neither", reader, 1, new int[] {0, 0}, 0, 0);
        rising.isMoved(checks, "neither", reader, 1, new int[] {1, 0}, 0, 0);
        String[] coded = {"0 0 1 0 000000", "0 1 1 0 1 1 000000"};
        for (String bits : coded) {
            reader = checks.right("CODED without a block", begun(P, 1, 1).u(0).raw(bits), 2);
            checks.looks("CODED without a block", reader, 16, 16, 2, 2, 2, 0, 6, 0);
        }
        checks.right("B: not CODED", begun(B, 1, 1).u(0).raw("0 10 0 1 1"), 3);
        checks.right("B: CODED without a block", begun(B, 1, 1).u(0).raw("0 10 1 0 1 1 000000"), 3);
    }

    /** A LEVEL of 1 at place 0 is 3 QUANT eighths of a dot more. */
    private static void newQuants() {
        checks.sentence("Of INNER and CODED ones then a bit: 1: a new QUANT in five bits (1 to 31) comes");
        for (int quant = 1; quant <= 31; quant++) {
            int dot = 128 + (3 * quant + 4) / 8;
            ReelReader reader = checks.right("P", begun(P, 1, 1).u(0).raw("0 0 1 1").number(quant, 5)
                    .raw("100000").u(1).s(1).u(0), 2);
            checks.due("P: new QUANT " + quant, reader.dot(1, 0, 0, 0), dot);
            reader = checks.right("B", begun(B, 1, 1).u(0).raw("0 01 1 1").number(quant, 5)
                    .raw("1 1 100000").u(1).s(1).u(0), 3);
            checks.due("B: new QUANT " + quant, reader.dot(1, 0, 0, 0), dot);
            reader = checks.right("I", begun(I, 1, 1).raw("1").number(quant, 5).raw("11 11 11 11 11 1")
                    .u(1).s(-50).u(0), 1);
            // At the left edge place 1 is 0.1734 dots for each of its 50 * 10 * QUANT / 8.
            int left = (int) Math.max(0, Math.round(128 - 0.1734 * (500 * quant / 8)));
            checks.due("I: new QUANT " + quant, Math.abs(reader.dot(0, 2, 0, 0) - left) <= 1, true);
        }
    }

    private static void newQuantOfZero() {
        checks.sentence("1: a new QUANT in five bits (1 to 31) comes");
        checks.wrongHere("I", begun(I, 1, 1).raw("1").here().raw("00000 11").end(), 4);
        checks.wrongHere("P INNER", begun(P, 1, 1).u(0).raw("1 1").here().raw("00000 11").end(), 4);
        checks.wrongHere("P CODED", begun(P, 1, 1).u(0).raw("0 0 1 1").here().raw("00000 11").end(), 4);
        checks.wrongHere("P MOVES and CODED", begun(P, 1, 1).u(0).raw("0 1 1 1").here().raw("00000 11").end(), 4);
        checks.wrongHere("B INNER", begun(B, 1, 1).u(0).raw("1 1").here().raw("00000 11").end(), 4);
        checks.wrongHere("B CODED", begun(B, 1, 1).u(0).raw("0 01 1 1").here().raw("00000 11").end(), 4);
    }

    private static void newQuantStays() {
        checks.sentence("a new QUANT in five bits (1 to 31) comes, which stays up to the PICTURE's end.");
        String level = " 100000 010 010 1";
        // QUANT 8, 24 from the second square on, through a row's begin and an INNER one; then 8 again.
        BitText text = begun(P, 2, 3).raw("1 0 0 1 0" + level).raw("1 0 0 1 1 11000" + level).raw("1 0 0 1 0" + level)
                .raw("1 1").flat().raw("010").raw("0 0 1 0" + level).align()
                .picture(P, 8, 1).raw("1 0 0 1 0" + level).u(5);
        ReelReader reader = checks.right("stays", text, 3);
        checks.due("ahead of it", reader.dot(1, 0, 0, 0), 131);
        checks.due("with it", reader.dot(1, 0, 16, 0), 137);
        checks.due("behind it", reader.dot(1, 0, 0, 16), 137);
        checks.due("behind an INNER and a passed over one", reader.dot(1, 0, 16, 32), 137);
        checks.due("the next picture", reader.dot(2, 0, 0, 0), 134);
        // A QUANT that is told within a square without a block stays as well.
        text = begun(P, 2, 1).raw("1 0 0 1 1 11000 000000").raw("1 0 0 1 0" + level);
        checks.due("told without a block", checks.right("without a block", text, 2).dot(1, 0, 16, 0), 137);
    }

    private static void whichBlocks() {
        checks.sentence("Of a SQUARE that is CODED six bits: which BLOCKS are coded (the first PLANE's four: left above, "
                + "right above, left below, right below; the second's, the third's); of an INNER one all are. "
                + "BLOCKS of 8 x 8 come in this order.");
        int[][] places = {{0, 0, 0}, {0, 8, 0}, {0, 0, 8}, {0, 8, 8}, {1, 0, 0}, {2, 0, 0}};
        for (int which = 0; which < 64; which++) {
            // Block b has 2 b + 3 dots more, if it is coded.
            BitText text = begun(P, 1, 1).u(0).raw("0 0 1 0").number(which, 6);
            for (int b = 0; b < 6; b++) {
                if ((which & 32 >> b) != 0) {
                    text.u(1).s(b + 1).u(0);
                }
            }
            ReelReader reader = checks.right("blocks", text, 2);
            checks.looks("blocks " + which, reader, 16, 16, 2, 2, 2, 0, 6 + Integer.bitCount(which), Integer.bitCount(which));
            for (int b = 0; b < 6; b++) {
                int more = (which & 32 >> b) != 0 ? 2 * b + 3 : 0;
                int[] at = places[b];
                checks.due("block " + b, reader.dot(1, at[0], at[1], at[2]), 128 + more);
                checks.due("block " + b, reader.dot(1, at[0], at[1] + 7, at[2] + 7), 128 + more);
            }
        }
        BitText text = begun(I, 1, 1).flat(1, 1, 1, 1, 10, 20);
        ReelReader reader = checks.right("INNER", text, 1);
        int[] wanted = {129, 130, 131, 132, 138, 148};
        for (int b = 0; b < 6; b++) {
            checks.due("INNER: block " + b, reader.dot(0, places[b][0], places[b][1] + 7, places[b][2] + 7), wanted[b]);
        }
    }
}
