/** Promise 6: the first thing that is wrong is told by its bit. */
public final class WrongBitTest {
    private static final Checks checks = new Checks("wrong bit");
    private static final int NONE = ReelReader.NONE;

    public static void main(String[] args) {
        marks();
        pictureOrEnd();
        heads();
        tapeEnds();
        unsignedZeros();
        passedOver();
        passedOverInB();
        squares();
        vectors();
        dcs();
        levels();
        aligns();
        checks.finish();
    }

    private static void wrongAt(String name, BitText text, int bit) {
        ReelReader reader = BitText.readerOf(text);
        reader.read();
        checks.due(name + ": wrong()", reader.wrong(), bit);
        checks.due(name + ": wrong() again", reader.wrong(), bit);
    }

    private static BitText twoToLeanOn(int across, int down) {
        return BitText.flatI(across, down).picture(BitText.P, 1, 1).u(across * down).align();
    }

    private static void marks() {
        wrongAt("nothing", new BitText(), 0);
        for (int i = 0; i < 16; i++) {
            wrongAt("mark's bit " + i, new BitText().number(21074 ^ 1 << (15 - i), 16).raw("0000 0000"), i);
        }
        wrongAt("half a mark", new BitText().raw("0101 0010"), 8);
        wrongAt("a mark alone", new BitText().number(21074, 16), 16);
        for (int i = 20; i < 24; i++) {
            wrongAt("align's bit " + i, new BitText().number(21074, 16).raw("0110").number(1 << (23 - i), 4), i);
        }
        wrongAt("a head alone", new BitText().head(4, 4), 24);
    }

    private static void pictureOrEnd() {
        for (int i = 0; i < 32; i++) {
            // One bit turns the begin of the one mark into that of the other: then it parts later.
            int bit = 24 + (i == 24 ? 26 : i);
            wrongAt("256 but bit " + i, new BitText().head(1, 1).number(256 ^ 1 << (31 - i), 32), bit);
            wrongAt("439 but bit " + i, new BitText().head(1, 1).number(439 ^ 1 << (31 - i), 32), bit);
        }
        wrongAt("mixed marks", new BitText().head(1, 1).number(0x137, 32), 50);
        wrongAt("behind a picture", BitText.flatI(1, 1).number(255, 32), 80 + 23);
        wrongAt("neither behind a picture", BitText.flatI(1, 1), 80);
        wrongAt("half an end", BitText.flatI(1, 1).number(0, 16), 96);
        wrongAt("an end", BitText.flatI(1, 1).end(), NONE);
    }

    private static void heads() {
        wrongAt("SORT 0", new BitText().head(1, 1).number(256, 32).raw("00 00000 0"), 57);
        wrongAt("P without one", new BitText().head(1, 1).picture(BitText.P, 0, 0), 56);
        wrongAt("B without two", new BitText().head(1, 1).picture(BitText.B, 0, 0), 56);
        wrongAt("B with one", BitText.flatI(1, 1).picture(BitText.B, 0, 0), 112);
        wrongAt("B with two", twoToLeanOn(1, 1).picture(BitText.B, 1, 1).u(0).raw("0 10 0").s(0).s(0).end(), NONE);
        wrongAt("a B does not count", twoToLeanOn(1, 1).end(), NONE);
        wrongAt("QUANT 0 of I", new BitText().head(1, 1).picture(BitText.I, 0, 0).raw("0"), 62);
        wrongAt("QUANT 0 of P", BitText.flatI(1, 1).picture(BitText.P, 0, 1).raw("0"), 118);
        wrongAt("SPAN 0 of P", BitText.flatI(1, 1).picture(BitText.P, 1, 0).raw("1"), 121);
        wrongAt("SPAN 0 of B", twoToLeanOn(1, 1).picture(BitText.B, 1, 0).raw("1"), 80 + 48 + 32 + 9);
        wrongAt("no SPAN of I", new BitText().head(1, 1).picture(BitText.I, 1, 0).flat(0, 0, 0, 0, 0, 0).end(), NONE);
    }

    /** Cut at any byte a stream is wrong at its length, and whole ones ahead of it still count. */
    private static void tapeEnds() {
        String bits = twoToLeanOn(2, 2).end().toString();
        for (int bytes = 0; bytes < bits.length() / 8; bytes++) {
            ReelReader reader = new ReelReader();
            BitText.give(reader, bits);
            checks.due("cut: end", reader.end(bytes), true);
            reader.read();
            checks.due("cut at byte " + bytes + ": wrong()", reader.wrong(), 8 * bytes);
        }
    }

    private static void unsignedZeros() {
        BitText text = BitText.flatI(1, 1).picture(BitText.P, 1, 1);
        int begin = text.length();
        wrongAt("21 zeros", text.number(0, 21).raw("1").number(0, 32), begin + 20);
        wrongAt("40 zeros", BitText.flatI(1, 1).picture(BitText.P, 1, 1).number(0, 32).number(0, 8), begin + 20);
        wrongAt("20 zeros", BitText.flatI(1, 1).picture(BitText.P, 1, 1).number(0, 20).raw("1").number(0, 32), begin);
        BitText cut = BitText.flatI(1, 1).picture(BitText.P, 1, 1).number(0, 20).raw("1").number(0, 10).align();
        wrongAt("20 zeros and an end of the tape", cut, cut.length());
        text = new BitText().head(1, 1).picture(BitText.I, 1, 0).raw("0");
        begin = text.length();
        wrongAt("21 zeros of an S", text.number(0, 21).raw("1").number(0, 32), begin + 20);
    }

    private static void passedOver() {
        BitText text = BitText.flatI(2, 2).picture(BitText.P, 1, 1);
        int begin = text.length();
        wrongAt("four of four", text.u(4).end(), NONE);
        wrongAt("five of four", BitText.flatI(2, 2).picture(BitText.P, 1, 1).u(5).end(), begin);
        text = BitText.flatI(2, 2).picture(BitText.P, 1, 1).u(1).raw("000");
        begin = text.length();
        wrongAt("three of the last two", text.u(3).end(), begin);
        wrongAt("two of the last two", BitText.flatI(2, 2).picture(BitText.P, 1, 1).u(1).raw("000").u(2).end(), NONE);
        wrongAt("no U behind the last one", BitText.flatI(2, 2).picture(BitText.P, 1, 1).u(3).raw("000").end(), NONE);
    }

    private static void passedOverInB() {
        BitText text = twoToLeanOn(3, 2).picture(BitText.B, 1, 1);
        int begin = text.length();
        wrongAt("B: the first one", text.u(1).end(), begin);
        String forward = "0 10 0 1 1";
        text = twoToLeanOn(3, 2).picture(BitText.B, 1, 1).u(0).raw(forward);
        begin = text.length();
        wrongAt("B: up to the row's end and one more", text.u(3).end(), begin);
        text = twoToLeanOn(3, 2).picture(BitText.B, 1, 1).u(0).raw(forward).u(1).raw(forward);
        begin = text.length();
        wrongAt("B: the first one of the next row", text.u(1).end(), begin);
        text = twoToLeanOn(3, 2).picture(BitText.B, 1, 1).u(0).raw(forward).u(0).raw("1").flat(0, 0, 0, 0, 0, 0);
        begin = text.length();
        wrongAt("B: behind an INNER one", text.u(1).end(), begin);
        wrongAt("B: both rows", twoToLeanOn(3, 2).picture(BitText.B, 1, 1).u(0).raw(forward).u(2)
                .raw(forward).u(1).raw(forward).end(), NONE);
        wrongAt("B: both rows to their ends", twoToLeanOn(3, 2).picture(BitText.B, 1, 1).u(0).raw(forward).u(2)
                .raw(forward).u(2).end(), NONE);
    }

    private static void squares() {
        BitText text = twoToLeanOn(1, 1).picture(BitText.B, 1, 1).u(0).raw("0 0 0");
        wrongAt("neither way", text.raw("0 0000"), text.length() - 6);
        text = BitText.flatI(1, 1).picture(BitText.P, 1, 1).u(0).raw("0 0 1 1 00000");
        wrongAt("a new QUANT of 0", text.raw("1111 1111"), text.length() - 9);
        wrongAt("neither MOVES nor CODED", BitText.flatI(1, 1).picture(BitText.P, 1, 1).u(0).raw("0 0 0").end(), NONE);
        wrongAt("CODED without a block", BitText.flatI(1, 1).picture(BitText.P, 1, 1).u(0).raw("0 0 1 0 000000").end(), NONE);
    }

    private static void vectors() {
        for (int span = 1; span <= 7; span++) {
            int half = 8 << span;
            int[] steps = {-half - 1, -half, half - 1, half};
            for (int i = 0; i < steps.length; i++) {
                boolean good = i == 1 || i == 2;
                BitText text = BitText.flatI(1, 1).picture(BitText.P, 1, span).u(0).raw("0 1 0");
                int begin = text.length();
                wrongAt("across " + steps[i], text.s(steps[i]).s(0).end(), good ? NONE : begin);
                text = BitText.flatI(1, 1).picture(BitText.P, 1, span).u(0).raw("0 1 0").s(7);
                begin = text.length();
                wrongAt("down " + steps[i], text.s(steps[i]).end(), good ? NONE : begin);
                text = twoToLeanOn(1, 1).picture(BitText.B, 1, span).u(0).raw("0 11 0").s(7).s(-8).s(5);
                begin = text.length();
                wrongAt("back down " + steps[i], text.s(steps[i]).end(), good ? NONE : begin);
            }
        }
    }

    private static void dcs() {
        int[] steps = {-129, -128, 127, 128};
        for (int i = 0; i < steps.length; i++) {
            for (int block = 0; block < 6; block++) {
                BitText text = new BitText().head(1, 1).picture(BitText.I, 1, 0).raw("0");
                for (int b = 0; b < block; b++) {
                    text.s(0).u(0);
                }
                int begin = text.length();
                text.s(steps[i]).u(0);
                for (int b = block + 1; b < 6; b++) {
                    text.s(0).u(0);
                }
                wrongAt("DC " + steps[i], text.end(), i == 1 || i == 2 ? NONE : begin);
            }
        }
    }

    private static void levels() {
        int[] none = {0, 2048, -2048, 1000000, -1000000};
        for (int level : none) {
            BitText text = new BitText().head(1, 1).picture(BitText.I, 1, 0).raw("0").s(0).u(1);
            int begin = text.length();
            wrongAt("LEVEL " + level, text.s(level).u(0).number(0, 32), begin);
        }
        for (int level = -2047; level <= 2047; level += 4094) {
            wrongAt("LEVEL " + level, coded().u(1).s(level).u(0).end(), NONE);
        }
        wrongAt("place 63", coded().u(64).s(1).u(0).end(), NONE);
        int begin = coded().length();
        wrongAt("place 64", coded().u(65).s(1).u(0).end(), begin);
        BitText full = coded();
        for (int i = 0; i < 64; i++) {
            full.u(1).s(1);
        }
        begin = full.length();
        String digits = full.toString();
        wrongAt("64 of them", full.u(0).end(), NONE);
        wrongAt("65 of them", new BitText().raw(digits).u(1).s(1).u(0).end(), begin);
        BitText inner = new BitText().head(1, 1).picture(BitText.I, 1, 0).raw("0").s(0);
        begin = inner.length();
        wrongAt("INNER place 64", inner.u(64).s(1).u(0).end(), begin);
        inner = new BitText().head(1, 1).picture(BitText.I, 1, 0).raw("0").s(0).u(63).s(1).u(0);
        wrongAt("INNER place 63", inner.raw("11 11 11 11 11").end(), NONE);
    }

    /** A P square of which the first block alone is coded. */
    private static BitText coded() {
        return BitText.flatI(1, 1).picture(BitText.P, 1, 1).u(0).raw("0 0 1 0 100000");
    }

    private static void aligns() {
        for (int i = 0; i < 4; i++) {
            BitText text = new BitText().head(1, 1).picture(BitText.I, 8, 0).flat(0, 0, 0, 0, 0, 0);
            wrongAt("align behind I", text.number(8 >> i, 4).end(), 76 + i);
        }
        BitText text = BitText.flatI(1, 1).picture(BitText.P, 1, 1).u(1);
        wrongAt("align behind P", text.raw("001").end(), text.length() - 33);
    }
}
