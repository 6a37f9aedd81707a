/** Promise 5: read() uses the tape up, tells how many were shown, and forgets what was shown. */
public final class ReadTest {
    private static final Checks checks = new Checks("read");
    private static final int NONE = ReelReader.NONE;
    private static final int I = BitText.I;
    private static final int P = BitText.P;

    public static void main(String[] args) {
        usesTheTapeUp();
        usesTheTapeUpWhereSomethingIsWrong();
        tellsHowManyWereShown();
        anEmptyTape();
        forgetsWhatWasShown();
        keepsItUpToTheNextRead();
        otherSizesBehindOneAnother();
        theSameStreamAgain();
        checks.finish();
    }

    private static void isUsedUp(String what, ReelReader reader) {
        checks.due(what + ": end(1)", reader.end(1), false);
        checks.due(what + ": bits", reader.bits(0, 5), 5);
        checks.due(what + ": end(0)", reader.end(0), true);
        checks.due(what + ": feed", reader.feed(0, 0, 0, 0, 0), 20);
    }

    private static void usesTheTapeUp() {
        checks.sentence("Uses the TAPE up (it is empty behind the call)");
        isUsedUp("right", checks.right("right", BitText.flatI(1, 1), 1));
        ReelReader reader = checks.wrongAt("behind the end", BitText.flatI(1, 1).end().number(-1, 32), NONE);
        isUsedUp("behind the end", reader);
        reader = new ReelReader();
        for (int i = 0; i < 200; i++) {
            reader.feed(-1, -1, -1, -1, -1);
        }
        reader.read();
        isUsedUp("a full one", reader);
    }

    private static void usesTheTapeUpWhereSomethingIsWrong() {
        checks.sentence("Uses the TAPE up (it is empty behind the call)");
        isUsedUp("wrong at once", checks.wrongAt("wrong at once", new BitText().number(-1, 32), 0));
        isUsedUp("wrong further on", checks.wrongHere("wrong further on", BitText.flatI(1, 1).here().number(-1, 32), 0));
        isUsedUp("cut", checks.wrongHere("cut", BitText.flatI(1, 1).here(), 0));
        ReelReader reader = new ReelReader();
        reader.bits(1, 3);
        reader.read();
        isUsedUp("some bits", reader);
    }

    private static void tellsHowManyWereShown() {
        checks.sentence("it is read: how many PICTURES were shown.");
        BitText text = new BitText().head(1, 1);
        for (int count = 0; count <= 24; count++) {
            String bits = text.toString();
            ReelReader reader = checks.right(count + " pictures", new BitText().raw(bits), count);
            checks.due(count + " pictures: look(2)", Checks.look(reader, 2), count);
            reader = BitText.readerOf(new BitText().raw(bits).number(-1, 8));
            checks.due(count + " pictures and a wrong bit: read()", reader.read(), count);
            text.picture(I, 8, 0).flat().align();
        }
    }

    private static void anEmptyTape() {
        checks.sentence("Uses the TAPE up (it is empty behind the call): it is read: how many PICTURES were shown.");
        ReelReader reader = checks.right("one", BitText.flatI(1, 1), 1);
        for (int i = 0; i < 2; i++) {
            checks.due("empty: read()", reader.read(), 0);
            checks.due("empty: wrong()", reader.wrong(), 0);
            checks.looks("empty", reader, 0, 0, 0, 0, 0, 0, 0, 0);
        }
    }

    private static void isGone(String what, ReelReader reader) {
        for (int k = 0; k < 20; k++) {
            checks.due(what + ": dot of " + k, reader.dot(k, 0, 0, 0), NONE);
            checks.due(what + ": sum of " + k, reader.sum(k, 0), NONE);
            checks.due(what + ": SORT of " + k, Checks.shown(reader, k, 0), Checks.THROWS);
        }
    }

    private static void forgetsWhatWasShown() {
        checks.sentence("What was shown before is gone.");
        ReelReader reader = checks.right("two", BitText.twoToLeanOn(3, 2), 2);
        reader.feed(0, 0, 0, 0, 0);
        reader.read();
        isGone("behind a wrong one", reader);
        checks.looks("behind a wrong one", reader, 0, 0, 0, 0, 0, 0, 0, 0);
        reader = checks.right("two", BitText.twoToLeanOn(3, 2), 2);
        BitText.give(reader, new BitText().head(1, 1).end().toString());
        checks.due("behind one without a picture: read()", reader.read(), 0);
        isGone("behind one without a picture", reader);
        checks.looks("behind one without a picture", reader, 16, 16, 0, 0, 0, 0, 0, 0);
        reader = checks.right("two", BitText.twoToLeanOn(3, 2), 2);
        BitText.give(reader, BitText.flatI(1, 1).end().toString());
        checks.due("behind one of one: read()", reader.read(), 1);
        checks.due("behind one of one: dot", reader.dot(1, 0, 0, 0), NONE);
        checks.due("behind one of one: SORT", Checks.shown(reader, 1, 0), Checks.THROWS);
    }

    private static void keepsItUpToTheNextRead() {
        checks.sentence("What was shown before is gone.");
        ReelReader reader = checks.wrongHere("one", BitText.flatI(1, 1).here(), 0);
        reader.feed(-1, -1, -1, -1, -1);
        reader.bits(21074, 16);
        reader.end(0);
        checks.due("ahead of the next: dot", reader.dot(0, 0, 15, 15), 128);
        checks.due("ahead of the next: sum", reader.sum(0, 1), 266240);
        checks.due("ahead of the next: SORT", Checks.shown(reader, 0, 0), I);
        checks.due("ahead of the next: wrong()", reader.wrong(), 80);
        checks.looks("ahead of the next", reader, 16, 16, 1, 1, 1, 0, 6, 0);
    }

    private static void otherSizesBehindOneAnother() {
        checks.sentence("What was shown before is gone.");
        ReelReader reader = new ReelReader();
        int[][] sizes = {{4, 4}, {1, 1}, {2, 3}, {3, 2}, {1, 4}, {4, 1}, {4, 4}};
        for (int i = 0; i < sizes.length; i++) {
            int count = sizes[i][0] * sizes[i][1];
            BitText text = new BitText().head(sizes[i][0], sizes[i][1]).picture(I, 1, 0);
            for (int n = 0; n < count; n++) {
                text.flat(n % sizes[i][0] == 0 ? i : 0, 0, 0, 0, 0, 0);
            }
            BitText.give(reader, text.align().picture(P, 1, 1).u(count).end().toString());
            checks.due("size " + i + ": read()", reader.read(), 2);
            int right = 16 * sizes[i][0] - 1;
            int bottom = 16 * sizes[i][1] - 1;
            checks.due("size " + i + ": dot", reader.dot(1, 0, right, bottom), 128 + i);
            checks.due("size " + i + ": right", reader.dot(1, 0, right + 1, bottom), NONE);
            checks.due("size " + i + ": below", reader.dot(1, 0, right, bottom + 1), NONE);
            checks.due("size " + i + ": passed over", Checks.shown(reader, 1, 3), count);
        }
    }

    /** What a stream leaves behind in the object is nothing to the next one. */
    private static void theSameStreamAgain() {
        checks.sentence("An empty TAPE; nothing was read.");
        BitText text = new RandomStream(new Chance(4), 0).write(4);
        ReelReader reader = BitText.readerOf(text);
        int count = reader.read();
        int[] sums = new int[3 * count];
        for (int i = 0; i < sums.length; i++) {
            sums[i] = reader.sum(i / 3, i % 3);
        }
        for (int again = 0; again < 3; again++) {
            BitText.give(reader, BitText.twoToLeanOn(2, 2).number(-1, 8).toString());
            reader.read();
            BitText.give(reader, text.toString());
            checks.due("again: read()", reader.read(), count);
            for (int i = 0; i < sums.length; i++) {
                checks.due("again: sum", reader.sum(i / 3, i % 3), sums[i]);
            }
        }
    }
}
