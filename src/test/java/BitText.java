/** Writes a stream as a text of 0 and 1, by the codes of the document. */
final class BitText {
    static final int I = 1;
    static final int P = 2;
    static final int B = 3;

    private final StringBuilder text = new StringBuilder();

    /** Digits as they stand; blanks are left out. */
    BitText raw(String digits) {
        for (int i = 0; i < digits.length(); i++) {
            if (digits.charAt(i) != ' ') {
                text.append(digits.charAt(i));
            }
        }
        return this;
    }

    BitText number(int value, int count) {
        for (int shift = count - 1; shift >= 0; shift--) {
            text.append((char) ('0' + ((value >> shift) & 1)));
        }
        return this;
    }

    BitText u(int value) {
        int zeros = 0;
        while ((2 << zeros) - 1 <= value) {
            zeros++;
        }
        number(0, zeros);
        number(1, 1);
        return number(value - ((1 << zeros) - 1), zeros);
    }

    BitText s(int value) {
        return u(value > 0 ? 2 * value - 1 : -2 * value);
    }

    BitText align() {
        while (text.length() % 8 != 0) {
            text.append('0');
        }
        return this;
    }

    BitText head(int across, int down) {
        return number(21074, 16).number(across - 1, 2).number(down - 1, 2).align();
    }

    /** A picture's head, with its mark; span counts for P and B alone. */
    BitText picture(int sort, int quant, int span) {
        number(256, 32).number(sort, 2).number(quant, 5);
        return sort == I ? this : number(span, 3);
    }

    /** An INNER square of flat blocks, behind its first bits: the steps of the six DCs. */
    BitText flat(int a, int b, int c, int d, int e, int f) {
        int[] steps = {a, b, c, d, e, f};
        raw("0");
        for (int step : steps) {
            s(step).u(0);
        }
        return this;
    }

    BitText end() {
        return align().number(439, 32);
    }

    int length() {
        return text.length();
    }

    @Override
    public String toString() {
        return text.toString();
    }

    /** A stream's head and its first picture, all of it 128. */
    static BitText flatI(int across, int down) {
        BitText text = new BitText().head(across, down).picture(BitText.I, 8, 0);
        for (int i = 0; i < across * down; i++) {
            text.flat(0, 0, 0, 0, 0, 0);
        }
        return text.align();
    }

    /** Gives the bits to a reader; the number of bits that the tape has then. */
    static int give(ReelReader reader, String bits) {
        int answer = 0;
        for (int at = 0; at < bits.length(); at += 32) {
            int to = Math.min(bits.length(), at + 32);
            answer = reader.bits((int) Long.parseLong(bits.substring(at, to), 2), to - at);
        }
        return answer;
    }

    static ReelReader readerOf(BitText stream) {
        ReelReader reader = new ReelReader();
        give(reader, stream.toString());
        return reader;
    }
}
