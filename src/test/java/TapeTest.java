/** Promises 1 to 4: a new object, feed, end and bits. */
public final class TapeTest {
    private static final Checks checks = new Checks("tape");

    public static void main(String[] args) {
        newObject();
        feedCounts();
        feedOrder();
        feedRefused();
        endCuts();
        bitsCount();
        bitsRefused();
        bitsTakeLowest();
        bytesBeginAgain();
        refusedCallsKeepThePlace();
        cutBitsAreGone();
        checks.finish();
    }

    private static void newObject() {
        ReelReader reader = new ReelReader();
        checks.due("new: wrong()", reader.wrong(), ReelReader.NONE);
        for (int what = 0; what < 8; what++) {
            checks.due("new: look", Checks.look(reader, what), 0);
        }
        checks.due("new: look(-1)", Checks.look(reader, -1), Checks.THROWS);
        checks.due("new: look(8)", Checks.look(reader, 8), Checks.THROWS);
        checks.due("new: shown(0, 0)", Checks.shown(reader, 0, 0), Checks.THROWS);
        checks.due("new: dot", reader.dot(0, 0, 0, 0), ReelReader.NONE);
        checks.due("new: sum", reader.sum(0, 0), ReelReader.NONE);
        checks.due("new: end(1)", reader.end(1), false);
        checks.due("new: end(0)", reader.end(0), true);
        checks.due("new: bits", reader.bits(0, 1), 1);
    }

    private static void feedCounts() {
        ReelReader reader = new ReelReader();
        for (int i = 1; i <= 200; i++) {
            checks.due("feed " + i, reader.feed(i, i, i, i, i), 20 * i);
        }
        checks.due("feed 201", reader.feed(0, 0, 0, 0, 0), ReelReader.NONE);
        checks.due("full: bits", reader.bits(0, 1), ReelReader.NONE);
        checks.due("full: end(4001)", reader.end(4001), false);
        checks.due("full: end(4000)", reader.end(4000), true);
    }

    /** A whole stream in feeds: the highest byte of each number comes first. */
    private static void feedOrder() {
        String bits = new BitText().head(1, 1).picture(BitText.I, 8, 0)
                .flat(1, 2, 3, 4, 5, 6).end().toString();
        int[] words = new int[10];
        for (int i = 0; i < bits.length(); i++) {
            if (bits.charAt(i) == '1') {
                words[i / 32] |= 1 << (31 - i % 32);
            }
        }
        ReelReader reader = new ReelReader();
        checks.due("order: feed", reader.feed(words[0], words[1], words[2], words[3], words[4]), 20);
        checks.due("order: feed", reader.feed(words[5], words[6], words[7], words[8], words[9]), 40);
        checks.due("order: read()", reader.read(), 1);
        checks.due("order: wrong()", reader.wrong(), ReelReader.NONE);
        checks.due("order: dot", reader.dot(0, 0, 15, 15), 138);
    }

    private static void feedRefused() {
        ReelReader reader = new ReelReader();
        for (int i = 0; i < 199; i++) {
            reader.feed(0, 0, 0, 0, 0);
        }
        checks.due("3980: bits", reader.bits(1, 1), 31841);
        checks.due("3981: feed", reader.feed(0, 0, 0, 0, 0), ReelReader.NONE);
        checks.due("3981: end(3980)", reader.end(3980), true);
        checks.due("3980: feed", reader.feed(0, 0, 0, 0, 0), 4000);
    }

    private static void endCuts() {
        ReelReader reader = new ReelReader();
        reader.feed(-1, -1, -1, -1, -1);
        checks.due("end(-1)", reader.end(-1), false);
        checks.due("end(lowest)", reader.end(Integer.MIN_VALUE), false);
        checks.due("end(highest)", reader.end(Integer.MAX_VALUE), false);
        checks.due("end(21)", reader.end(21), false);
        checks.due("end(20)", reader.end(20), true);
        checks.due("end(7)", reader.end(7), true);
        checks.due("end(8) of 7", reader.end(8), false);
        checks.due("bits behind 7", reader.bits(0, 3), 59);
        checks.due("end(9) of 8", reader.end(9), false);
        checks.due("end(8) of 7 and 3 bits", reader.end(8), true);
        checks.due("bits behind 8", reader.bits(0, 1), 65);
        checks.due("end(0)", reader.end(0), true);
        checks.due("bits behind 0", reader.bits(0, 1), 1);
    }

    private static void bitsCount() {
        ReelReader reader = new ReelReader();
        int total = 0;
        for (int n = 1; n <= 32; n++) {
            total += n;
            checks.due("bits of " + n, reader.bits(n, n), total);
        }
        checks.due("bits(0, 0)", reader.bits(0, 0), ReelReader.NONE);
        checks.due("bits(0, 33)", reader.bits(0, 33), ReelReader.NONE);
        checks.due("bits(0, -1)", reader.bits(0, -1), ReelReader.NONE);
        checks.due("bits(0, lowest)", reader.bits(0, Integer.MIN_VALUE), ReelReader.NONE);
        checks.due("bits(0, highest)", reader.bits(0, Integer.MAX_VALUE), ReelReader.NONE);
        checks.due("bits goes on", reader.bits(0, 1), total + 1);
    }

    private static void bitsRefused() {
        ReelReader reader = new ReelReader();
        for (int i = 0; i < 199; i++) {
            reader.feed(0, 0, 0, 0, 0);
        }
        for (int i = 1; i < 5; i++) {
            checks.due("to the brim", reader.bits(0, 32), 31840 + 32 * i);
        }
        checks.due("31 more", reader.bits(0, 31), 31999);
        checks.due("2 more", reader.bits(0, 2), ReelReader.NONE);
        checks.due("1 more", reader.bits(0, 1), 32000);
        checks.due("none more", reader.bits(0, 1), ReelReader.NONE);
    }

    private static void bitsTakeLowest() {
        ReelReader reader = new ReelReader();
        reader.bits(0xABCD0000 | 21074, 16);
        reader.bits(0xFFFFFFF0 | 9, 4);
        reader.bits(-16, 4);
        reader.read();
        checks.due("lowest: wrong()", reader.wrong(), 24);
        checks.due("lowest: look(0)", Checks.look(reader, 0), 48);
        checks.due("lowest: look(1)", Checks.look(reader, 1), 32);
    }

    /** The tape's length in bits is where a good begin without more is wrong. */
    private static void bytesBeginAgain() {
        ReelReader reader = new ReelReader();
        reader.bits(21074 >> 3, 13);
        checks.due("13 bits: feed", reader.feed(0, 0, 0, 0, 0), 22);
        checks.due("22 bytes: bits", reader.bits(1, 2), 178);
        checks.due("13 bits: end(2)", reader.end(2), true);
        checks.due("2 bytes: bits", reader.bits(0, 5), 21);
        checks.due("21 bits: end(3)", reader.end(3), true);
        reader.read();
        // The mark's last bits are 010, and behind 13 bits there are zeros.
        checks.due("13 bits: wrong()", reader.wrong(), 14);
        checks.due("behind read: bits", reader.bits(1, 3), 3);
        reader.read();
        checks.due("3 bits: wrong()", reader.wrong(), 1);
        checks.due("behind read: bits", reader.bits(2, 3), 3);
        reader.read();
        checks.due("one byte 01000000: wrong()", reader.wrong(), 3);
        checks.due("behind read: feed", reader.feed(0, 0, 0, 0, 0), 20);
    }

    private static void refusedCallsKeepThePlace() {
        ReelReader reader = new ReelReader();
        reader.bits(0, 3);
        checks.due("refused end", reader.end(2), false);
        checks.due("place is kept", reader.bits(0, 2), 5);
        checks.due("refused bits", reader.bits(0, 40), ReelReader.NONE);
        checks.due("place is kept", reader.bits(0, 2), 7);
        for (int i = 0; i < 199; i++) {
            reader.feed(0, 0, 0, 0, 0);
        }
        checks.due("3981 bytes and a bit", reader.bits(0, 1), 31849);
        checks.due("refused feed", reader.feed(0, 0, 0, 0, 0), ReelReader.NONE);
        checks.due("place is kept", reader.bits(0, 1), 31850);
    }

    /** What was cut off is not there when bits come in its place. */
    private static void cutBitsAreGone() {
        ReelReader reader = new ReelReader();
        reader.feed(-1, -1, -1, -1, -1);
        reader.end(0);
        reader.bits(21074, 16);
        reader.bits(0, 1);
        reader.read();
        checks.due("cut: wrong()", reader.wrong(), 24);
        checks.due("cut: look(0)", Checks.look(reader, 0), 16);
        checks.due("cut: look(1)", Checks.look(reader, 1), 16);
    }
}
