/** Promises 1 to 4: a new object, feed, end and bits, sentence by sentence. */
public final class TapeTest {
    private static final Checks checks = new Checks("tape");
    private static final int NONE = ReelReader.NONE;
    private static final int LOWEST = Integer.MIN_VALUE;
    private static final int HIGHEST = Integer.MAX_VALUE;

    public static void main(String[] args) {
        aNewTapeIsEmpty();
        aNewObjectHasReadNothing();
        objectsShareNothing();
        feedHighestFirst();
        feedCounts();
        feedBeyondTheMost();
        endKeepsTheFirst();
        endRefused();
        bitsTakeTheLowest();
        bitsBehindTheLast();
        bitsCount();
        bitsOfAnotherNumber();
        bitsBeyondTheMost();
        bytesBeginAgain();
        theBitsBehindAreZero();
        refusedCallsKeepThePlace();
        checks.finish();
    }

    /** A tape of so many bytes, twenty by twenty, and all of them 0. */
    private static ReelReader fed(int bytes) {
        ReelReader reader = new ReelReader();
        for (int i = 0; i < bytes; i += 20) {
            reader.feed(0, 0, 0, 0, 0);
        }
        checks.due("fed: end(" + bytes + ")", reader.end(bytes), true);
        return reader;
    }

    private static void hasBytes(String what, ReelReader reader, int bytes) {
        checks.due(what + ": end of one more", reader.end(bytes + 1), false);
        checks.due(what + ": end of all", reader.end(bytes), true);
    }

    private static void aNewTapeIsEmpty() {
        checks.sentence("An empty TAPE; nothing was read.");
        hasBytes("new", new ReelReader(), 0);
        checks.due("new: bits", new ReelReader().bits(0, 1), 1);
        checks.due("new: feed", new ReelReader().feed(0, 0, 0, 0, 0), 20);
        ReelReader reader = new ReelReader();
        checks.due("new: read()", reader.read(), 0);
        checks.due("new: wrong() behind read()", reader.wrong(), 0);
    }

    private static void aNewObjectHasReadNothing() {
        checks.sentence("An empty TAPE; nothing was read.");
        ReelReader reader = new ReelReader();
        checks.due("new: wrong()", reader.wrong(), NONE);
        checks.looks("new", reader, 0, 0, 0, 0, 0, 0, 0, 0);
        checks.due("new: shown(0, 0)", Checks.shown(reader, 0, 0), Checks.THROWS);
        checks.due("new: dot", reader.dot(0, 0, 0, 0), NONE);
        checks.due("new: sum", reader.sum(0, 0), NONE);
    }

    private static void objectsShareNothing() {
        checks.sentence("An empty TAPE; nothing was read.");
        ReelReader other = BitText.readerOf(BitText.flatI(1, 1).end());
        ReelReader reader = new ReelReader();
        hasBytes("beside a full one", reader, 0);
        other.read();
        checks.due("beside one that has read: wrong()", reader.wrong(), NONE);
        checks.due("beside one that has read: dot", reader.dot(0, 0, 0, 0), NONE);
        checks.due("beside a new one: dot", other.dot(0, 0, 0, 0), 128);
    }

    /** A whole stream of just twenty bytes, which are right in no other order. */
    private static void feedHighestFirst() {
        checks.sentence("Twenty bytes come behind the TAPE, of each number the highest first");
        ReelReader reader = new ReelReader();
        checks.due("feed", reader.feed(0x52520000, 0x00010050, 0xFFF00000, 0x01008250, 0x000001B7), 20);
        checks.due("fed: read()", reader.read(), 2);
        checks.due("fed: wrong()", reader.wrong(), NONE);
        // The same with one more picture, so that the second twenty bytes come within it.
        reader.feed(0x52520000, 0x00010050, 0xFFF00000, 0x01008250, 0x00000100);
        checks.due("feed behind", reader.feed(0x82500000, 0x01B7FFFF, -1, -1, -1), 40);
        checks.due("fed twice: read()", reader.read(), 3);
        checks.due("fed twice: wrong()", reader.wrong(), NONE);
    }

    private static void feedCounts() {
        checks.sentence("of each number the highest first: how many it has");
        ReelReader reader = new ReelReader();
        for (int i = 1; i <= 200; i++) {
            checks.due("feed " + i, reader.feed(i, -i, i, -i, i), 20 * i);
        }
        reader = new ReelReader();
        reader.bits(0, 1);
        checks.due("feed behind a bit", reader.feed(0, 0, 0, 0, 0), 21);
        reader.end(7);
        checks.due("feed behind 7 bytes", reader.feed(0, 0, 0, 0, 0), 27);
    }

    private static void feedBeyondTheMost() {
        checks.sentence("NONE, and none come, if it would have more than 4000.");
        ReelReader reader = fed(4000);
        checks.due("4000: feed", reader.feed(-1, -1, -1, -1, -1), NONE);
        hasBytes("4000", reader, 4000);
        reader = fed(3980);
        checks.due("3980: feed", reader.feed(0, 0, 0, 0, 0), 4000);
        reader = fed(3981);
        checks.due("3981: feed", reader.feed(-1, -1, -1, -1, -1), NONE);
        hasBytes("3981", reader, 3981);
        reader = fed(3980);
        checks.due("3980: bits", reader.bits(0, 1), 31841);
        checks.due("3980 and a bit: feed", reader.feed(-1, -1, -1, -1, -1), NONE);
        hasBytes("3980 and a bit", reader, 3981);
        reader = fed(3999);
        checks.due("3999: feed", reader.feed(-1, -1, -1, -1, -1), NONE);
        checks.due("3999: bits goes on", reader.bits(0, 8), 32000);
    }

    private static void endKeepsTheFirst() {
        checks.sentence("The TAPE has its first n bytes alone: true");
        String bits = BitText.flatI(1, 1).end().toString();
        for (int n = 0; n <= bits.length() / 8; n++) {
            ReelReader reader = new ReelReader();
            BitText.give(reader, bits);
            checks.due("end(" + n + ")", reader.end(n), true);
            hasBytes("end(" + n + ")", reader, n);
            reader.read();
            checks.due("end(" + n + "): wrong()", reader.wrong(), 8 * n == bits.length() ? NONE : 8 * n);
        }
        ReelReader reader = fed(4000);
        hasBytes("full", reader, 4000);
        checks.due("full: end(0)", reader.end(0), true);
        hasBytes("cut to nothing", reader, 0);
        checks.due("cut to nothing: feed", reader.feed(0, 0, 0, 0, 0), 20);
    }

    private static void endRefused() {
        checks.sentence("false, and nothing happens, if it has fewer, or n is below 0.");
        int[] refused = {-1, 15, 16, 4000, 4001, LOWEST, HIGHEST, -HIGHEST};
        for (int n : refused) {
            ReelReader reader = BitText.readerOf(BitText.flatI(1, 1).end());
            checks.due("14 bytes: end(" + n + ")", reader.end(n), false);
            checks.due("refused: read()", reader.read(), 1);
            checks.due("refused: wrong()", reader.wrong(), NONE);
        }
        ReelReader reader = new ReelReader();
        checks.due("empty: end(-1)", reader.end(-1), false);
        checks.due("empty: end(1)", reader.end(1), false);
        checks.due("empty: end(0)", reader.end(0), true);
    }

    /** The mark, and 3 by 2 squares: with other bits above those that count. */
    private static void bitsTakeTheLowest() {
        checks.sentence("The bits of a number (its lowest n, 1 to 32, the highest first)");
        int[] above = {0, -1, 0xABCD0000};
        for (int other : above) {
            ReelReader reader = new ReelReader();
            reader.bits(other & -1 << 16 | 21074, 16);
            reader.bits(other & -1 << 4 | 9, 4);
            reader.bits(other & -1 << 4, 4);
            reader.read();
            checks.due("lowest: wrong()", reader.wrong(), 24);
            checks.due("lowest: look(0)", Checks.look(reader, 0), 48);
            checks.due("lowest: look(1)", Checks.look(reader, 1), 32);
        }
        String bits = BitText.flatI(1, 1).end().toString();
        for (int n = 1; n <= 32; n++) {
            ReelReader reader = new ReelReader();
            for (int at = 0; at < bits.length(); at += n) {
                int to = Math.min(bits.length(), at + n);
                checks.due("bits", reader.bits((int) Long.parseLong(bits.substring(at, to), 2), to - at), to);
            }
            checks.due("by " + n + " bits: read()", reader.read(), 1);
            checks.due("by " + n + " bits: wrong()", reader.wrong(), NONE);
        }
    }

    private static void bitsBehindTheLast() {
        checks.sentence("the first of them behind its last byte, or where the latest of these calls ended");
        String bits = BitText.flatI(1, 1).number(439, 32).toString();
        ReelReader reader = new ReelReader();
        BitText.give(reader, bits + bits + bits);
        // Fed bytes are cut back to the first ten, and the end comes in three pieces behind them.
        checks.due("fed: end(10)", reader.end(10), true);
        checks.due("behind its last byte: bits", reader.bits(0, 13), 93);
        checks.due("where it ended: bits", reader.bits(1, 11), 104);
        checks.due("where it ended: bits", reader.bits(0xB7, 8), 112);
        checks.due("pieces: read()", reader.read(), 1);
        checks.due("pieces: wrong()", reader.wrong(), NONE);
    }

    private static void bitsCount() {
        checks.sentence("how many bits it has then, those of no whole byte, too");
        ReelReader reader = new ReelReader();
        int total = 0;
        for (int n = 1; n <= 32; n++) {
            total += n;
            checks.due("bits of " + n, reader.bits(n, n), total);
        }
        reader = fed(20);
        checks.due("behind 20 bytes", reader.bits(0, 1), 161);
    }

    private static void bitsOfAnotherNumber() {
        checks.sentence("NONE for another n, or if it would have more than 4000 bytes.");
        int[] others = {0, -1, 33, 64, LOWEST, HIGHEST, -32};
        for (int n : others) {
            ReelReader reader = new ReelReader();
            checks.due("empty: bits(-1, " + n + ")", reader.bits(-1, n), NONE);
            hasBytes("refused bits", reader, 0);
            reader.bits(0, 3);
            checks.due("3 bits: bits(-1, " + n + ")", reader.bits(-1, n), NONE);
            checks.due("3 bits: goes on", reader.bits(2, 2), 5);
            reader.read();
            // 00010: the mark is 01010.
            checks.due("3 bits: wrong()", reader.wrong(), 1);
        }
        ReelReader reader = new ReelReader();
        checks.due("bits(0, 1)", reader.bits(0, 1), 1);
        checks.due("bits(0, 32)", reader.bits(0, 32), 33);
    }

    private static void bitsBeyondTheMost() {
        checks.sentence("NONE for another n, or if it would have more than 4000 bytes.");
        ReelReader reader = fed(3996);
        checks.due("3996: 32 bits", reader.bits(0, 32), 32000);
        checks.due("full: 1 bit", reader.bits(1, 1), NONE);
        hasBytes("full", reader, 4000);
        reader = fed(3997);
        checks.due("3997: 32 bits", reader.bits(-1, 32), NONE);
        checks.due("3997: 25 bits", reader.bits(-1, 25), NONE);
        hasBytes("3997", reader, 3997);
        checks.due("3997: 24 bits", reader.bits(0, 24), 32000);
        reader = fed(3999);
        checks.due("3999: 7 bits", reader.bits(0, 7), 31999);
        checks.due("31999 bits: 2 bits", reader.bits(0, 2), NONE);
        checks.due("31999 bits: 1 bit", reader.bits(0, 1), 32000);
        checks.due("32000 bits: 1 bit", reader.bits(0, 1), NONE);
    }

    private static void bytesBeginAgain() {
        checks.sentence("(feed(), end(), where they are not refused, and read() begin at a byte's begin again;");
        ReelReader reader = new ReelReader();
        reader.bits(0, 13);
        checks.due("13 bits: feed", reader.feed(0, 0, 0, 0, 0), 22);
        checks.due("22 bytes: bits", reader.bits(0, 2), 178);
        hasBytes("22 bytes and 2 bits", reader, 23);
        checks.due("behind end: bits", reader.bits(0, 5), 189);
        checks.due("23 bytes and 5 bits: end(24)", reader.end(24), true);
        checks.due("24 bytes: bits", reader.bits(0, 1), 193);
        checks.due("24 bytes and a bit: end(1)", reader.end(1), true);
        checks.due("1 byte: bits", reader.bits(0, 1), 9);
        reader.read();
        checks.due("behind read(): bits", reader.bits(0, 3), 3);
        reader.read();
        checks.due("behind read(): feed", reader.feed(0, 0, 0, 0, 0), 20);
    }

    /** Where a byte was that is gone, and where only some bits of it came, the rest is 0. */
    private static void theBitsBehindAreZero() {
        checks.sentence("the bits behind are 0.)");
        for (int by = 0; by < 3; by++) {
            ReelReader reader = new ReelReader();
            reader.feed(-1, -1, -1, -1, -1);
            reader.end(0);
            // The mark's last bits are 010: behind 13 bits there is the 1 wanting.
            reader.bits(21074 >> 3, 13);
            if (by == 0) {
                reader.feed(-1, -1, -1, -1, -1);
            } else if (by == 1) {
                reader.end(2);
            }
            reader.read();
            checks.due("13 bits: wrong() of " + by, reader.wrong(), 14);
        }
        ReelReader reader = new ReelReader();
        reader.feed(-1, -1, -1, -1, -1);
        reader.end(0);
        reader.bits(21074, 16);
        reader.bits(0, 1);
        reader.read();
        checks.due("17 bits: wrong()", reader.wrong(), 24);
        checks.due("17 bits: look(0)", Checks.look(reader, 0), 16);
        checks.due("17 bits: look(1)", Checks.look(reader, 1), 16);
        // The byte's rest is 0 as well where bytes come behind it: 3 by 1, and a whole stream.
        reader.bits(21074, 16);
        reader.bits(2, 2);
        reader.feed(439, 0, 0, 0, 0);
        reader.read();
        checks.due("18 bits and a feed: wrong()", reader.wrong(), NONE);
        checks.due("18 bits and a feed: look(0)", Checks.look(reader, 0), 48);
        checks.due("18 bits and a feed: look(1)", Checks.look(reader, 1), 16);
        reader.feed(-1, -1, -1, -1, -1);
        reader.read();
        reader.bits(1, 2);
        reader.read();
        checks.due("read() behind read(): wrong()", reader.wrong(), 3);
    }

    private static void refusedCallsKeepThePlace() {
        checks.sentence("(feed(), end(), where they are not refused, and read() begin at a byte's begin again;");
        ReelReader reader = new ReelReader();
        reader.bits(0, 3);
        checks.due("end(2) of 1", reader.end(2), false);
        checks.due("goes on: bits", reader.bits(0, 2), 5);
        checks.due("end(-1)", reader.end(-1), false);
        checks.due("goes on: bits", reader.bits(0, 2), 7);
        reader = fed(3981);
        checks.due("3981: bits", reader.bits(0, 1), 31849);
        checks.due("3981 and a bit: feed", reader.feed(0, 0, 0, 0, 0), NONE);
        checks.due("goes on: bits", reader.bits(0, 1), 31850);
    }
}
