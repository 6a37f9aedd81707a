/** The paragraph "Wrong bits" and promise 6: the first thing that is wrong is told by its bit. */
public final class WrongBitTest {
    private static final Checks checks = new Checks("wrong bit");
    private static final int NONE = ReelReader.NONE;
    private static final int I = BitText.I;
    private static final int P = BitText.P;
    private static final int B = BitText.B;
    private static final String END = "An end of the TAPE ahead of what must come is wrong at its length in bits.";

    public static void main(String[] args) {
        sortOfZero();
        quantOfZero();
        spanOfZero();
        the21stZero();
        cutAtEveryByte();
        cutWithinACode();
        lengthIsThatOfWholeBytes();
        cutBehindAWrongBit();
        nothingBehindIsLookedAt();
        theFirstOfTwo();
        noneWithoutOne();
        noneAheadOfAny();
        theLatestReadAlone();
        checks.finish();
    }

    private static void sortOfZero() {
        checks.sentence("(a SORT of 00 at its second bit,");
        checks.wrongHere("the first picture", new BitText().head(1, 1).number(256, 32).here().raw("00 00000 000").end(), 1);
        checks.wrongHere("the second one", BitText.flatI(1, 1).number(256, 32).here().raw("00 11111 111").end(), 1);
        checks.wrongHere("the third one", BitText.twoToLeanOn(1, 1).number(256, 32).here().raw("00 11111 111").end(), 1);
    }

    private static void quantOfZero() {
        checks.sentence("a QUANT of 00000 at its fifth,");
        checks.wrongHere("I", new BitText().head(1, 1).number(256, 32).raw("01").here().raw("00000 1").end(), 4);
        checks.wrongHere("P", BitText.flatI(1, 1).number(256, 32).raw("10").here().raw("00000 111").end(), 4);
        checks.wrongHere("P and SPAN 0", BitText.flatI(1, 1).number(256, 32).raw("10").here().raw("00000 000").end(), 4);
        checks.wrongHere("B", BitText.twoToLeanOn(1, 1).number(256, 32).raw("11").here().raw("00000 111").end(), 4);
        checks.wrongHere("a new one", new BitText().head(1, 1).picture(I, 8, 0).raw("1").here().raw("00000 1").end(), 4);
    }

    private static void spanOfZero() {
        checks.sentence("what cannot be is wrong at the bit told, else at the first one with which it can't go on");
        checks.wrongHere("P", BitText.flatI(1, 1).number(256, 32).raw("10 11111").here().raw("000 1").end(), 2);
        checks.wrongHere("B", BitText.twoToLeanOn(1, 1).number(256, 32).raw("11 11111").here().raw("000 1").end(), 2);
    }

    /** Wherever a U or an S comes: 21 zeros, with a 1 or with more zeros behind them. */
    private static void the21stZero() {
        checks.sentence("a 21st 0 of a U at that).");
        BitText[] begins = {
            BitText.flatI(1, 1).picture(P, 1, 1),
            BitText.flatI(2, 1).picture(P, 1, 1).u(0).raw("0 0 0"),
            BitText.twoToLeanOn(1, 1).picture(B, 1, 1),
            BitText.flatI(1, 1).picture(P, 1, 7).u(0).raw("0 1 0"),
            BitText.flatI(1, 1).picture(P, 1, 7).u(0).raw("0 1 0").s(0),
            BitText.twoToLeanOn(1, 1).picture(B, 1, 1).u(0).raw("0 11 0").s(0).s(0),
            new BitText().head(1, 1).picture(I, 8, 0).raw("0"),
            new BitText().head(1, 1).picture(I, 8, 0).raw("0").s(0),
            new BitText().head(1, 1).picture(I, 8, 0).raw("0").s(0).u(1),
            BitText.codedFirst(1), BitText.codedFirst(1).u(1)};
        for (BitText begin : begins) {
            String bits = begin.toString();
            int at = bits.length();
            String what = "behind " + at + " bits";
            checks.wrongAt(what + ": 21", new BitText().raw(bits).number(0, 21).raw("1").number(0, 32), at + 20);
            checks.wrongAt(what + ": 32", new BitText().raw(bits).number(0, 32).raw("1").number(0, 32), at + 20);
            checks.wrongAt(what + ": 20", new BitText().raw(bits).number(0, 20).raw("1").number(0, 32), at);
        }
    }

    private static void cutAtEveryByte() {
        checks.sentence(END);
        for (int seed = 0; seed < 12; seed++) {
            String bits = new RandomStream(new Chance(seed), 0).write(3).toString();
            for (int bytes = 0; bytes < bits.length() / 8; bytes++) {
                ReelReader reader = new ReelReader();
                BitText.give(reader, bits.substring(0, 8 * bytes));
                reader.read();
                checks.due("stream " + seed + ", " + bytes + " bytes: wrong()", reader.wrong(), 8 * bytes);
            }
        }
    }

    /** What would be wrong at its first bit, or at its last one, is not there yet. */
    private static void cutWithinACode() {
        checks.sentence(END);
        cut("a U that would be too much", BitText.flatI(1, 1).picture(P, 1, 1).raw("0000 0000 0000 0000 0000 1 11111 11111"));
        cut("20 zeros", BitText.codedFirst(1).u(1).s(1).u(1).s(1).u(1).number(0, 20));
        cut("an S that would be too much", BitText.flatI(1, 1).picture(P, 1, 1).u(0).raw("0 1 0 0000 0000 1 111"));
        cut("a new QUANT", BitText.flatI(1, 1).picture(P, 1, 1).u(0).raw("1 1 000"));
        cut("a mark", BitText.flatI(1, 1).number(0, 8));
        cut("a mark but its last byte", BitText.flatI(1, 1).number(1, 24));
    }

    /** The bits of no whole byte are left out. */
    private static void cut(String what, BitText text) {
        int whole = text.length() / 8 * 8;
        checks.wrongAt(what, new BitText().raw(text.toString().substring(0, whole)), whole);
    }

    private static void lengthIsThatOfWholeBytes() {
        checks.sentence(END);
        for (int n = 1; n <= 8; n++) {
            // A mark can begin with these zeros.
            ReelReader reader = BitText.readerOf(BitText.flatI(1, 1));
            reader.bits(0, n);
            reader.read();
            checks.due(n + " bits: wrong()", reader.wrong(), 88);
        }
        ReelReader reader = new ReelReader();
        reader.bits(21074 >> 1, 15);
        reader.read();
        checks.due("15 bits and a 0: wrong()", reader.wrong(), 16);
    }

    /** The bit that is wrong is the tape's last one, or is told though the tape ends behind it. */
    private static void cutBehindAWrongBit() {
        checks.sentence("what cannot be is wrong at the bit told, else at the first one with which it can't go on");
        checks.wrongAt("a wrong mark", new BitText().raw("0101 0011"), 7);
        checks.wrongAt("a wrong ALIGN", new BitText().number(21074, 16).raw("0000 0001"), 23);
        checks.wrongAt("a wrong mark of a picture", BitText.flatI(1, 1).raw("0000 0001"), 87);
        BitText text = BitText.codedFirst(1).u(1).s(1).number(0, 21);
        checks.wrongAt("a 21st 0", text, text.length() - 1);
        text = BitText.flatI(1, 1).picture(P, 1, 1).raw("010").raw("001");
        checks.wrongAt("the ALIGN's last bit", text, text.length() - 1);
    }

    private static void nothingBehindIsLookedAt() {
        checks.sentence("Nothing behind a wrong bit is looked at.");
        String whole = BitText.twoToLeanOn(1, 1).end().toString();
        BitText text = new BitText().number(21075, 16).raw("0000 0000").raw(whole);
        checks.looks("a mark", checks.wrongAt("a mark", text, 15), 0, 0, 0, 0, 0, 0, 0, 0);
        text = new BitText().number(21074, 16).raw("0001 0001").raw(whole.substring(24));
        checks.looks("an ALIGN", checks.wrongAt("an ALIGN", text, 23), 16, 32, 0, 0, 0, 0, 0, 0);
        text = BitText.flatI(1, 1).number(257, 32).raw(whole.substring(24));
        checks.looks("a picture's mark", checks.wrongAt("a picture's mark", text, 111), 16, 16, 1, 1, 1, 0, 6, 0);
        text = BitText.flatI(2, 1).picture(P, 1, 1).here().u(3).raw("0 0 0").align().picture(P, 1, 1).u(2).end();
        checks.looks("a U", checks.wrongHere("a U", text, 0), 32, 16, 1, 1, 2, 0, 12, 0);
        text = BitText.codedFirst(1).u(3).here().s(0).u(1).s(4).u(0).align().picture(P, 1, 1).u(1).end();
        checks.looks("a LEVEL", checks.wrongHere("a LEVEL", text, 0), 16, 16, 1, 1, 1, 0, 6, 0);
    }

    private static void theFirstOfTwo() {
        checks.sentence("Nothing behind a wrong bit is looked at.");
        checks.wrongAt("all ones", new BitText().number(-1, 32).number(-1, 32), 0);
        checks.wrongAt("a mark's two bits", new BitText().number(21074 ^ 0x0810, 16).raw("0000 0000"), 4);
        checks.wrongHere("an ALIGN's bits", BitText.flatI(1, 1).picture(P, 1, 1).u(1).raw("0").here().raw("11"), 0);
        checks.wrongHere("a DC and a LEVEL", new BitText().head(1, 1).picture(I, 8, 0).raw("0").here().s(200).u(70).s(0).end(), 0);
    }

    private static void noneWithoutOne() {
        checks.sentence("The bit of the latest read() that is wrong (from 0 on); NONE without one, and ahead of any.");
        checks.wrongAt("the first bit", new BitText().raw("1101 0010"), 0);
        checks.wrongAt("the second bit", new BitText().raw("0001 0010"), 1);
        checks.right("no picture", new BitText().head(1, 1), 0);
        ReelReader reader = checks.right("one picture", BitText.flatI(1, 1), 1);
        checks.due("one picture: wrong() again", reader.wrong(), NONE);
    }

    private static void noneAheadOfAny() {
        checks.sentence("NONE without one, and ahead of any.");
        ReelReader reader = new ReelReader();
        checks.due("new", reader.wrong(), NONE);
        reader.feed(-1, -1, -1, -1, -1);
        checks.due("fed", reader.wrong(), NONE);
        reader.bits(0, 3);
        reader.end(1);
        reader.end(-1);
        checks.due("cut", reader.wrong(), NONE);
        reader.read();
        checks.due("read", reader.wrong(), 0);
    }

    private static void theLatestReadAlone() {
        checks.sentence("The bit of the latest read() that is wrong (from 0 on);");
        ReelReader reader = checks.wrongAt("wrong", new BitText().number(21074, 16), 16);
        BitText.give(reader, BitText.flatI(1, 1).end().toString());
        checks.due("ahead of the next: wrong()", reader.wrong(), 16);
        reader.read();
        checks.due("behind a right one: wrong()", reader.wrong(), NONE);
        reader.bits(1, 8);
        reader.read();
        checks.due("behind a wrong one: wrong()", reader.wrong(), 1);
        checks.due("again: wrong()", reader.wrong(), 1);
        reader.read();
        checks.due("behind an empty one: wrong()", reader.wrong(), 0);
    }
}
