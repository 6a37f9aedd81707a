/** Writes a stream as a text of 0 and 1, by the codes of the document. */
final class BitText {
    static final int I = 1;
    static final int P = 2;
    static final int B = 3;

    /** What one feed() takes, in bits. */
    private static final int FEED = 160;

    private final StringBuilder text = new StringBuilder();
    private int place;

    /** Digits as they stand; blanks are left out. */
    BitText raw(String digits) {
        for (int i = 0; i < digits.length(); i++) {
            if (digits.charAt(i) != ' ') {
                text.append(digits.charAt(i));
            }
        }
        return this;
    }

    BitText number(int value, int count) {
        for (int shift = count - 1; shift >= 0; shift--) {
            text.append((char) ('0' + ((value >> shift) & 1)));
        }
        return this;
    }

    BitText u(int value) {
        int zeros = 0;
        while ((2 << zeros) - 1 <= value) {
            zeros++;
        }
        number(0, zeros);
        number(1, 1);
        return number(value - ((1 << zeros) - 1), zeros);
    }

    BitText s(int value) {
        return u(value > 0 ? 2 * value - 1 : -2 * value);
    }

    BitText align() {
        while (text.length() % 8 != 0) {
            text.append('0');
        }
        return this;
    }

    BitText head(int across, int down) {
        return number(21074, 16).number(across - 1, 2).number(down - 1, 2).align();
    }

    /** A picture's head, with its mark; span counts for P and B alone. */
    BitText picture(int sort, int quant, int span) {
        number(256, 32).number(sort, 2).number(quant, 5);
        return sort == I ? this : number(span, 3);
    }

    /** An INNER square of flat blocks, behind its first bits: the steps of the six DCs. */
    BitText flat(int a, int b, int c, int d, int e, int f) {
        int[] steps = {a, b, c, d, e, f};
        raw("0");
        for (int step : steps) {
            s(step).u(0);
        }
        return this;
    }

    /** An INNER square, behind its first bits, with nothing new in it. */
    BitText flat() {
        return flat(0, 0, 0, 0, 0, 0);
    }

    BitText end() {
        return align().number(439, 32);
    }

    /** Keeps this place in mind. */
    BitText here() {
        place = text.length();
        return this;
    }

    int place() {
        return place;
    }

    int length() {
        return text.length();
    }

    @Override
    public String toString() {
        return text.toString();
    }

    /** A stream's head and its first picture, all of it 128. */
    static BitText flatI(int across, int down) {
        BitText text = new BitText().head(across, down).picture(I, 8, 0);
        for (int i = 0; i < across * down; i++) {
            text.flat();
        }
        return text.align();
    }

    /** The same, with a P that is like it, so that a B can come. */
    static BitText twoToLeanOn(int across, int down) {
        return flatI(across, down).picture(P, 1, 1).u(across * down).align();
    }

    /** A P of one square behind a flat I of 128; its first block alone is coded, and comes next. */
    static BitText codedFirst(int quant) {
        return flatI(1, 1).picture(P, quant, 1).u(0).raw("0 0 1 0 100000");
    }

    /** Gives the bits to a reader with an even tape, in few calls: an object has only 512. */
    static void give(ReelReader reader, String bits) {
        int at = 0;
        while (at + FEED <= bits.length()) {
            reader.feed(word(bits, at, 32), word(bits, at + 32, 32), word(bits, at + 64, 32),
                    word(bits, at + 96, 32), word(bits, at + 128, 32));
            at += FEED;
        }
        while (at < bits.length()) {
            int count = Math.min(32, bits.length() - at);
            reader.bits(word(bits, at, count), count);
            at += count;
        }
    }

    private static int word(String bits, int at, int count) {
        return (int) Long.parseLong(bits.substring(at, at + count), 2);
    }

    static ReelReader readerOf(BitText stream) {
        ReelReader reader = new ReelReader();
        give(reader, stream.toString());
        return reader;
    }
}
