/** Promise 5: read() uses the tape up, tells how many were shown, and forgets what was shown. */
public final class ReadTest {
    private static final Checks checks = new Checks("read");

    public static void main(String[] args) {
        usesTheTapeUp();
        forgetsWhatWasShown();
        countsMoreThanAreKept();
        showsInItsOrder();
        showsTheLatestWhereSomethingIsWrong();
        nothingBehindTheEndCounts();
        otherSizesBehindOneAnother();
        checks.finish();
    }

    private static void usesTheTapeUp() {
        ReelReader reader = BitText.readerOf(BitText.flatI(1, 1).end());
        checks.due("read()", reader.read(), 1);
        checks.due("used up: end(1)", reader.end(1), false);
        checks.due("used up: bits", reader.bits(0, 5), 5);
        checks.due("used up: end(0)", reader.end(0), true);
        checks.due("empty: read()", reader.read(), 0);
        checks.due("empty: wrong()", reader.wrong(), 0);
    }

    private static void forgetsWhatWasShown() {
        ReelReader reader = BitText.readerOf(BitText.flatI(1, 1).end());
        reader.read();
        checks.due("before: dot", reader.dot(0, 0, 0, 0), 128);
        reader.feed(0, 0, 0, 0, 0);
        checks.due("ahead of the next read: dot", reader.dot(0, 0, 0, 0), 128);
        checks.due("ahead of the next read: wrong()", reader.wrong(), ReelReader.NONE);
        reader.read();
        checks.due("gone: dot", reader.dot(0, 0, 0, 0), ReelReader.NONE);
        checks.due("gone: sum", reader.sum(0, 0), ReelReader.NONE);
        checks.due("gone: shown", Checks.shown(reader, 0, 0), Checks.THROWS);
        for (int what = 0; what < 8; what++) {
            checks.due("gone: look", Checks.look(reader, what), 0);
        }
    }

    private static void countsMoreThanAreKept() {
        BitText text = BitText.flatI(1, 1);
        for (int i = 1; i < 30; i++) {
            text.picture(BitText.P, 1, 1).u(1).align();
        }
        ReelReader reader = BitText.readerOf(text.end());
        checks.due("30: read()", reader.read(), 30);
        checks.due("30: look(2)", Checks.look(reader, 2), 30);
        checks.due("30: look(3)", Checks.look(reader, 3), 30);
        checks.due("30: shown(19, 1)", Checks.shown(reader, 19, 1), 19);
        checks.due("30: shown(20, 1)", Checks.shown(reader, 20, 1), Checks.THROWS);
        checks.due("30: dot of 19", reader.dot(19, 0, 0, 0), 128);
        checks.due("30: dot of 20", reader.dot(20, 0, 0, 0), ReelReader.NONE);
        checks.due("30: sum of 19", reader.sum(19, 1), 266240);
        checks.due("30: sum of 20", reader.sum(20, 1), ReelReader.NONE);
    }

    /** I P B B P B I, each a step brighter than the one ahead of it in the stream. */
    private static void showsInItsOrder() {
        BitText text = new BitText().head(1, 1);
        int[] sorts = {1, 2, 3, 3, 2, 3, 1};
        for (int i = 0; i < sorts.length; i++) {
            text.picture(sorts[i], 1, 1).raw(sorts[i] == 1 ? "" : "11").flat(i, 0, 0, 0, 0, 0).align();
        }
        ReelReader reader = BitText.readerOf(text.end());
        checks.due("order: read()", reader.read(), 7);
        int[] order = {0, 2, 3, 1, 5, 4, 6};
        for (int k = 0; k < order.length; k++) {
            checks.due("order: sort of " + k, Checks.shown(reader, k, 0), sorts[order[k]]);
            checks.due("order: number of " + k, Checks.shown(reader, k, 1), order[k]);
            checks.due("order: inner of " + k, Checks.shown(reader, k, 2), 1);
            checks.due("order: dot of " + k, reader.dot(k, 0, 9, 9), 128 + order[k]);
        }
    }

    private static void showsTheLatestWhereSomethingIsWrong() {
        BitText text = BitText.flatI(1, 1).picture(BitText.P, 1, 1).u(1).align().picture(BitText.B, 1, 1);
        int at = text.length();
        ReelReader reader = BitText.readerOf(text.u(1).align());
        checks.due("wrong B: read()", reader.read(), 2);
        checks.due("wrong B: wrong()", reader.wrong(), at);
        checks.due("wrong B: look(3)", Checks.look(reader, 3), 2);
        checks.due("wrong B: shown(1, 0)", Checks.shown(reader, 1, 0), BitText.P);

        text = new BitText().head(1, 1).picture(BitText.I, 8, 0).flat(0, 0, 0, 0, 0, 0);
        at = text.length();
        reader = BitText.readerOf(text.raw("1").align());
        checks.due("ALIGN of the only one: read()", reader.read(), 0);
        checks.due("ALIGN of the only one: wrong()", reader.wrong(), at);
        checks.due("ALIGN of the only one: look(3)", Checks.look(reader, 3), 0);
        checks.due("ALIGN of the only one: look(4)", Checks.look(reader, 4), 1);
    }

    private static void nothingBehindTheEndCounts() {
        ReelReader reader = BitText.readerOf(BitText.flatI(1, 1).end().raw("111").end());
        checks.due("behind the end: read()", reader.read(), 1);
        checks.due("behind the end: wrong()", reader.wrong(), ReelReader.NONE);
        reader = BitText.readerOf(new BitText().head(4, 3).end());
        checks.due("no picture: read()", reader.read(), 0);
        checks.due("no picture: wrong()", reader.wrong(), ReelReader.NONE);
        checks.due("no picture: look(0)", Checks.look(reader, 0), 64);
        checks.due("no picture: look(1)", Checks.look(reader, 1), 48);
    }

    private static void otherSizesBehindOneAnother() {
        ReelReader reader = new ReelReader();
        int[][] sizes = {{4, 4}, {1, 1}, {2, 3}, {3, 2}, {1, 4}, {4, 1}, {4, 4}};
        for (int i = 0; i < sizes.length; i++) {
            int count = sizes[i][0] * sizes[i][1];
            BitText text = new BitText().head(sizes[i][0], sizes[i][1]).picture(BitText.I, 1, 0);
            for (int n = 0; n < count; n++) {
                text.flat(n % sizes[i][0] == 0 ? i : 0, 0, 0, 0, 0, 0);
            }
            BitText.give(reader, text.align().picture(BitText.P, 1, 1).u(count).end().toString());
            checks.due("size " + i + ": read()", reader.read(), 2);
            int right = 16 * sizes[i][0] - 1;
            int bottom = 16 * sizes[i][1] - 1;
            checks.due("size " + i + ": dot", reader.dot(1, 0, right, bottom), 128 + i);
            checks.due("size " + i + ": right", reader.dot(1, 0, right + 1, bottom), ReelReader.NONE);
            checks.due("size " + i + ": below", reader.dot(1, 0, right, bottom + 1), ReelReader.NONE);
            checks.due("size " + i + ": passed over", Checks.shown(reader, 1, 3), count);
        }
    }
}
