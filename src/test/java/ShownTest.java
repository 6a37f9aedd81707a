/** Terms 4, SHOWN, and promises 5 and 8: which pictures are shown, and in which order. */
public final class ShownTest {
    private static final Checks checks = new Checks("shown");
    private static final int NONE = ReelReader.NONE;
    private static final int I = BitText.I;
    private static final int P = BitText.P;
    private static final int B = BitText.B;
    private static final String WHOLE_I_OR_P = "A whole I or P: the one that was whole ahead of it, if there is one; "
            + "the latest one when reading ends (also where something is wrong).";

    public static void main(String[] args) {
        aWholeBAtOnce();
        theOneAhead();
        theLatestAtTheEnd();
        theLatestWhereSomethingIsWrong();
        noneIfNoneWasWhole();
        atMostTwentyAreKept();
        keptOnesStayAsTheyWere();
        sortsAndNumbers();
        innerOnes();
        passedOverOnes();
        noSuchPicture();
        anotherWhat();
        checks.finish();
    }

    /** Pictures of one square, each of them INNER and a step brighter than the one ahead of it. */
    private static BitText brighter(int... sorts) {
        BitText text = new BitText().head(1, 1);
        for (int i = 0; i < sorts.length; i++) {
            text.picture(sorts[i], 1, 1).raw(sorts[i] == I ? "" : "11").flat(i, 0, 0, 0, 0, 0).align();
        }
        return text;
    }

    private static void areShown(String what, ReelReader reader, int[] sorts, int... order) {
        for (int k = 0; k < order.length; k++) {
            checks.due(what + ": SORT of " + k, Checks.shown(reader, k, 0), sorts[order[k]]);
            checks.due(what + ": number of " + k, Checks.shown(reader, k, 1), order[k]);
            checks.due(what + ": dot of " + k, reader.dot(k, 0, 9, 9), 128 + order[k]);
        }
        checks.due(what + ": no more", reader.dot(order.length, 0, 9, 9), NONE);
    }

    private static void aWholeBAtOnce() {
        checks.sentence("SHOWN: a whole B at once.");
        int[] sorts = {I, P, B, B, B};
        areShown("I P B B B", checks.right("I P B B B", brighter(sorts), 5), sorts, 0, 2, 3, 4, 1);
        // One that is wrong in its last bit, the ALIGN's, is not whole.
        BitText text = brighter(I, P, B).picture(B, 8, 1).u(0).raw("0 10 0 1 1").here().raw("1").end();
        ReelReader reader = checks.wrongHere("a B that is not whole", text, 0);
        areShown("a B that is not whole", reader, new int[] {I, P, B}, 0, 2, 1);
    }

    private static void theOneAhead() {
        checks.sentence(WHOLE_I_OR_P);
        int[] sorts = {I, P, B, B, P, B, I, I, B, P};
        ReelReader reader = checks.right("by turns", brighter(sorts), 10);
        areShown("by turns", reader, sorts, 0, 2, 3, 1, 5, 4, 6, 8, 7, 9);
        sorts = new int[] {I, I, P, P, I};
        areShown("no B", checks.right("no B", brighter(sorts), 5), sorts, 0, 1, 2, 3, 4);
    }

    private static void theLatestAtTheEnd() {
        checks.sentence("the latest one when reading ends (also where something is wrong).");
        int[] sorts = {I};
        areShown("I", checks.right("I", brighter(sorts), 1), sorts, 0);
        sorts = new int[] {I, P};
        areShown("I P", checks.right("I P", brighter(sorts), 2), sorts, 0, 1);
    }

    private static void theLatestWhereSomethingIsWrong() {
        checks.sentence("the latest one when reading ends (also where something is wrong).");
        int[] sorts = {I, P, B};
        areShown("no end", checks.wrongHere("no end", brighter(sorts).here(), 0), sorts, 0, 2, 1);
        BitText text = brighter(sorts).here().number(1, 8);
        areShown("a wrong mark", checks.wrongHere("a wrong mark", text, 7), sorts, 0, 2, 1);
        text = brighter(sorts).picture(P, 1, 1).here().u(2).end();
        areShown("a wrong P", checks.wrongHere("a wrong P", text, 0), sorts, 0, 2, 1);
        text = brighter(I).picture(I, 1, 0).raw("0").s(5).u(0).here().s(200).end();
        areShown("a wrong I", checks.wrongHere("a wrong I", text, 0), sorts, 0);
        text = brighter(I).picture(P, 1, 1).u(1).here().raw("1").end();
        areShown("a wrong ALIGN", checks.wrongHere("a wrong ALIGN", text, 0), sorts, 0);
    }

    private static void noneIfNoneWasWhole() {
        checks.sentence(WHOLE_I_OR_P);
        areShown("nothing", checks.wrongAt("nothing", new BitText(), 0), new int[0]);
        areShown("a head", checks.wrongAt("a head", new BitText().head(1, 1), 24), new int[0]);
        areShown("an end", checks.wrongAt("an end", new BitText().head(1, 1).end(), NONE), new int[0]);
        BitText text = new BitText().head(1, 1).picture(I, 8, 0).flat().here().raw("1").end();
        ReelReader reader = checks.wrongHere("no ALIGN", text, 0);
        areShown("no ALIGN", reader, new int[0]);
        checks.looks("no ALIGN", reader, 16, 16, 0, 0, 1, 0, 6, 0);
    }

    private static int[] sortsOf(int count) {
        int[] sorts = new int[count];
        for (int i = 0; i < count; i++) {
            sorts[i] = i == 0 ? I : P;
        }
        return sorts;
    }

    private static void atMostTwentyAreKept() {
        checks.sentence("At most the first 20 shown ones are kept.");
        int[] counts = {19, 20, 21, 22, 30};
        for (int count : counts) {
            ReelReader reader = checks.right(count + " pictures", brighter(sortsOf(count)), count);
            checks.looks(count + " pictures", reader, 16, 16, count, count, count, 0, 6 * count, 0);
            for (int k = 0; k < 32; k++) {
                boolean kept = k < count && k < 20;
                checks.due(count + " pictures: number of " + k, Checks.shown(reader, k, 1), kept ? k : Checks.THROWS);
                checks.due(count + " pictures: dot of " + k, reader.dot(k, 0, 0, 0), kept ? 128 + k : NONE);
                checks.due(count + " pictures: sum of " + k, reader.sum(k, 1), kept ? 266240 : NONE);
            }
        }
        // The 20th that is shown is a B, and the P ahead of it in the stream is the 21st.
        int[] sorts = sortsOf(21);
        sorts[20] = B;
        ReelReader reader = checks.right("a B as the 20th", brighter(sorts), 21);
        checks.due("a B as the 20th: number", Checks.shown(reader, 19, 1), 20);
        checks.due("a B as the 20th: dot", reader.dot(19, 0, 0, 0), 148);
    }

    /** Later pictures of the stream do not change what was kept, also where they are many. */
    private static void keptOnesStayAsTheyWere() {
        checks.sentence("At most the first 20 shown ones are kept.");
        ReelReader reader = checks.right("50 pictures", brighter(sortsOf(50)), 50);
        for (int k = 0; k < 20; k++) {
            checks.due("50 pictures: dot of " + k, reader.dot(k, 0, 15, 15), 128 + k);
        }
        BitText.give(reader, brighter(I, P).end().toString());
        checks.due("two pictures: read()", reader.read(), 2);
        areShown("two behind 50", reader, new int[] {I, P}, 0, 1);
    }

    private static void sortsAndNumbers() {
        checks.sentence("Of shown PICTURE k (0 to 19), what 0 SORT, 1 which PICTURE of the stream it was (from 0 on),");
        int[] sorts = {I, P, B, I};
        ReelReader reader = checks.right("I P B I", brighter(sorts), 4);
        int[] order = {0, 2, 1, 3};
        for (int k = 0; k < 4; k++) {
            checks.due("SORT of " + k, Checks.shown(reader, k, 0), sorts[order[k]]);
            checks.due("number of " + k, Checks.shown(reader, k, 1), order[k]);
        }
    }

    private static void innerOnes() {
        checks.sentence("2 how many of its SQUARES were INNER, 3 passed over.");
        BitText text = BitText.flatI(3, 1).picture(P, 1, 1).u(0).raw("1").flat().u(0).raw("0 0 0").u(0).raw("1").flat().align()
                .picture(P, 1, 1).u(3).align().picture(B, 1, 1).u(0).raw("0 10 0 1 1").u(0).raw("1").flat()
                .u(0).raw("0 01 0 1 1");
        ReelReader reader = checks.right("INNER", text, 4);
        int[] wanted = {3, 2, 1, 0};
        for (int k = 0; k < 4; k++) {
            checks.due("INNER of " + k, Checks.shown(reader, k, 2), wanted[k]);
        }
    }

    private static void passedOverOnes() {
        checks.sentence("2 how many of its SQUARES were INNER, 3 passed over.");
        BitText text = BitText.flatI(4, 1).picture(P, 1, 1).u(1).raw("0 0 0").u(2).align()
                .picture(P, 1, 1).u(4).align().picture(B, 1, 1).u(0).raw("0 10 0 1 1").u(1).raw("0 01 0 1 1").u(1);
        ReelReader reader = checks.right("passed over", text, 4);
        int[] wanted = {0, 3, 2, 4};
        for (int k = 0; k < 4; k++) {
            checks.due("passed over of " + k, Checks.shown(reader, k, 3), wanted[k]);
        }
    }

    private static void noSuchPicture() {
        checks.sentence("NoSuchElementException: there is none such, or another what.");
        ReelReader reader = checks.right("two", brighter(I, P), 2);
        int[] none = {-1, 2, 3, 19, 20, 21, Integer.MIN_VALUE, Integer.MAX_VALUE};
        for (int k : none) {
            for (int what = -1; what <= 4; what++) {
                checks.due("shown(" + k + ", " + what + ")", Checks.shown(reader, k, what), Checks.THROWS);
            }
        }
        checks.due("shown(1, 0) behind them", Checks.shown(reader, 1, 0), P);
    }

    private static void anotherWhat() {
        checks.sentence("NoSuchElementException: there is none such, or another what.");
        ReelReader reader = checks.right("one", brighter(I), 1);
        int[] others = {-1, 4, 5, 100, Integer.MIN_VALUE, Integer.MAX_VALUE};
        for (int what : others) {
            checks.due("shown(0, " + what + ")", Checks.shown(reader, 0, what), Checks.THROWS);
        }
        int[] wanted = {I, 0, 1, 0};
        for (int what = 0; what < 4; what++) {
            checks.due("shown(0, " + what + ")", Checks.shown(reader, 0, what), wanted[what]);
        }
    }
}
