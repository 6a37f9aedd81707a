/** Terms 1: the bits, the codes of numbers, the stream and a picture's head, sentence by sentence. */
public final class StreamTest {
    private static final Checks checks = new Checks("stream");
    private static final int NONE = ReelReader.NONE;

    public static void main(String[] args) {
        theFullTapeIsRead();
        unsignedCodes();
        unsignedZeros();
        signedCodes();
        alignOfTheHead();
        alignOfAPicture();
        planesAndSizes();
        theMark();
        acrossIsToldFirst();
        picturesMayBeNone();
        whatComesBehindTheEnd();
        sorts();
        quants();
        spans();
        neitherAPictureNorTheEnd();
        checks.finish();
    }

    /** 665 pictures that fill the tape up to its last bit. */
    private static BitText fullTape() {
        BitText text = BitText.flatI(1, 1);
        for (int i = 0; i < 662; i++) {
            text.picture(BitText.P, 1, 1).u(1).align();
        }
        for (int i = 0; i < 2; i++) {
            text.picture(BitText.P, 1, 1).u(0).raw("0 1 0").s(1).s(0).align();
        }
        return text.end();
    }

    private static void theFullTapeIsRead() {
        checks.sentence("BITS are those of the TAPE's bytes (at most 4000), the highest first.");
        checks.due("the full tape's bits", fullTape().length(), 32000);
        ReelReader reader = checks.wrongAt("full", fullTape(), NONE);
        checks.looks("full", reader, 16, 16, 665, 665, 3, 662, 6, 0);
        reader = BitText.readerOf(fullTape());
        reader.end(3999);
        checks.due("3999 bytes: read()", reader.read(), 665);
        checks.due("3999 bytes: wrong()", reader.wrong(), 31992);
        String turned = fullTape().toString().substring(0, 31999);
        checks.wrongAt("the last bit is turned", new BitText().raw(turned).raw("0"), 31999);
        checks.wrongAt("no end", new BitText().raw(turned.substring(0, 31968)).number(256, 32), 32000);
    }

    private static void unsignedCodes() {
        checks.sentence("U: z bits 0, a 1, and z bits more (z at most 20): 2^z - 1 more than the number these bits tell.");
        String[] codes = {"1", "010", "011", "00100", "00101", "00110", "00111", "0001000", "0001001", "0001010",
            "0001011", "0001100", "0001101", "0001110", "0001111", "000010000", "000010001"};
        for (int n = 0; n <= 16; n++) {
            BitText text = BitText.flatI(4, 4).picture(BitText.P, 1, 1).raw(codes[n]);
            for (int i = n; i < 16; i++) {
                text.raw(i == n ? "000" : "1 000");
            }
            ReelReader reader = checks.right("U " + n, text, 2);
            checks.due("U " + n + ": passed over", Checks.shown(reader, 1, 3), n);
        }
    }

    private static void unsignedZeros() {
        checks.sentence("U: z bits 0, a 1, and z bits more (z at most 20)");
        String[] behind = {"00000000000000000000", "11111111111111111111"};
        for (String bits : behind) {
            BitText text = BitText.flatI(1, 1).picture(BitText.P, 1, 1).here().number(0, 20).raw("1").raw(bits);
            checks.wrongHere("20 zeros are told too many", text, 0);
            text = BitText.flatI(1, 1).picture(BitText.P, 1, 1).here().number(0, 21).raw("1").raw(bits);
            checks.wrongHere("21 zeros are no U", text, 20);
        }
    }

    private static void signedCodes() {
        checks.sentence("S: a U of n: n is odd: (n + 1) / 2; even: - n / 2.");
        String[] codes = {"1", "010", "011", "00100", "00101", "00110", "00111", "0001000", "0001001",
            "000000011111110", "00000000100000001"};
        int[] steps = {0, 1, -1, 2, -2, 3, -3, 4, -4, 127, -128};
        for (int i = 0; i < codes.length; i++) {
            BitText text = new BitText().head(1, 1).picture(BitText.I, 1, 0).raw("0").raw(codes[i]).raw("1 11 11 11 11 11");
            ReelReader reader = checks.right("S " + steps[i], text, 1);
            checks.due("S " + steps[i] + ": dot", reader.dot(0, 0, 0, 0), 128 + steps[i]);
        }
    }

    private static void alignOfTheHead() {
        checks.sentence("ALIGN: bits up to the next byte's begin, all 0.");
        for (int i = 0; i < 4; i++) {
            BitText text = new BitText().number(21074, 16).raw("0110").here().number(8 >> i, 4).number(439, 32);
            ReelReader reader = checks.wrongHere("the head's bit " + i, text, i);
            checks.looks("the head's bit " + i, reader, 32, 48, 0, 0, 0, 0, 0, 0);
        }
    }

    /** Pictures that leave every number of bits up to the next byte, none of them too. */
    private static void alignOfAPicture() {
        checks.sentence("ALIGN: bits up to the next byte's begin, all 0.");
        boolean[] seen = new boolean[8];
        for (int quant = 0; quant < 2; quant++) {
            for (int steps = 0; steps < 4; steps++) {
                String bits = alignedBehind(quant == 1, steps).toString();
                int left = -bits.length() & 7;
                seen[left] = true;
                checks.right(left + " bits", new BitText().raw(bits), 1);
                for (int i = 0; i < left; i++) {
                    BitText text = new BitText().raw(bits).here().number(1 << (left - 1 - i), left).number(439, 32);
                    ReelReader reader = checks.wrongHere("bit " + i + " of " + left, text, i);
                    checks.looks("bit " + i + " of " + left, reader, 16, 16, 0, 0, 1, 0, 6, 0);
                }
            }
        }
        for (int left = 0; left < 8; left++) {
            checks.due("a picture that leaves " + left + " bits", seen[left], true);
        }
    }

    private static BitText alignedBehind(boolean quant, int steps) {
        BitText text = new BitText().head(1, 1).picture(BitText.I, 8, 0).raw(quant ? "1 00001" : "0");
        for (int b = 0; b < 6; b++) {
            text.s(b < steps ? 1 : 0).u(0);
        }
        return text;
    }

    private static void planesAndSizes() {
        checks.sentence("The size is told: A (1 to 4) by B (1 to 4) SQUARES, each of 16 x 16 DOTS of the first PLANE, "
                + "and 8 x 8 of the second and the third one, which are half as wide and high.");
        for (int across = 1; across <= 4; across++) {
            for (int down = 1; down <= 4; down++) {
                String what = across + " by " + down;
                ReelReader reader = checks.right(what, BitText.flatI(across, down), 1);
                checks.looks(what, reader, 16 * across, 16 * down, 1, 1, across * down, 0, 6 * across * down, 0);
                planeHas(what, reader, 0, 16 * across, 16 * down);
                planeHas(what, reader, 1, 8 * across, 8 * down);
                planeHas(what, reader, 2, 8 * across, 8 * down);
            }
        }
    }

    private static void planeHas(String what, ReelReader reader, int plane, int width, int height) {
        String name = what + ": plane " + plane;
        checks.due(name + ", last dot", reader.dot(0, plane, width - 1, height - 1), 128);
        checks.due(name + ", last of the first row", reader.dot(0, plane, width - 1, 0), 128);
        checks.due(name + ", last of the first column", reader.dot(0, plane, 0, height - 1), 128);
        checks.due(name + ", right of it", reader.dot(0, plane, width, 0), NONE);
        checks.due(name + ", below it", reader.dot(0, plane, 0, height), NONE);
        int count = width * height;
        checks.due(name + ", sum", reader.sum(0, plane), 128 * (count * (count + 1) / 2));
    }

    private static void theMark() {
        checks.sentence("STREAM: 16 bits 21074 (0101001001010010)");
        checks.wrongAt("the mark's digits", new BitText().raw("0101001001010010 0000 0000").number(439, 32), NONE);
        for (int i = 0; i < 16; i++) {
            BitText text = new BitText().number(21074 ^ 1 << (15 - i), 16).raw("0000 0000").number(439, 32);
            ReelReader reader = checks.wrongAt("the mark's bit " + i, text, i);
            checks.looks("the mark's bit " + i, reader, 0, 0, 0, 0, 0, 0, 0, 0);
        }
    }

    private static void acrossIsToldFirst() {
        checks.sentence("A - 1 in two bits, B - 1 in two bits, ALIGN; PICTURES; 32 bits 439 (000001B7, the end).");
        String[] two = {"00", "01", "10", "11"};
        for (int a = 0; a < 4; a++) {
            for (int b = 0; b < 4; b++) {
                BitText text = new BitText().number(21074, 16).raw(two[a]).raw(two[b]).raw("0000");
                ReelReader reader = checks.right("size", text, 0);
                checks.looks("size " + two[a] + two[b], reader, 16 * (a + 1), 16 * (b + 1), 0, 0, 0, 0, 0, 0);
            }
        }
    }

    private static void picturesMayBeNone() {
        checks.sentence("ALIGN; PICTURES; 32 bits 439 (000001B7, the end).");
        ReelReader reader = checks.right("no picture", new BitText().head(2, 1), 0);
        checks.due("no picture: dot", reader.dot(0, 0, 0, 0), NONE);
        checks.due("no picture: shown", Checks.shown(reader, 0, 0), Checks.THROWS);
        checks.right("one picture", BitText.flatI(2, 1), 1);
        checks.right("two pictures", BitText.twoToLeanOn(2, 1), 2);
    }

    private static void whatComesBehindTheEnd() {
        checks.sentence("What comes behind does not count.");
        String[] behind = {"1", "11111111", "00000000", BitText.flatI(1, 1).end().toString(),
            new BitText().picture(BitText.P, 1, 1).u(1).end().toString()};
        for (String bits : behind) {
            ReelReader reader = checks.wrongAt("behind the end", BitText.flatI(1, 1).end().raw(bits), NONE);
            checks.looks("behind the end", reader, 16, 16, 1, 1, 1, 0, 6, 0);
        }
    }

    private static void sorts() {
        checks.sentence("A PICTURE: 32 bits 256 (00000100); a SORT in two bits: 1 I, 2 P, 3 B;");
        BitText text = BitText.flatI(1, 1).raw("00000000 00000000 00000001 00000000 10 00001 001").u(1).align()
                .number(256, 32).raw("11 00001 001").u(0).raw("0 10 0 1 1").align()
                .number(256, 32).raw("01 00001").flat();
        ReelReader reader = checks.right("I P B I", text, 4);
        int[] wanted = {1, 3, 2, 1};
        for (int k = 0; k < 4; k++) {
            checks.due("SORT of " + k, Checks.shown(reader, k, 0), wanted[k]);
        }
        checks.wrongHere("SORT 0", new BitText().head(1, 1).number(256, 32).here().raw("00 00001 0"), 1);
    }

    /** A LEVEL of 1 at place 0 of a P is 3 QUANT eighths of a dot more. */
    private static void quants() {
        checks.sentence("QUANT in five bits, 1 to 31;");
        for (int quant = 1; quant <= 31; quant++) {
            checks.right("QUANT " + quant + " of I", new BitText().head(1, 1).picture(BitText.I, quant, 0).flat(), 1);
            ReelReader reader = checks.right("QUANT " + quant, BitText.codedFirst(quant).u(1).s(1).u(0), 2);
            checks.due("QUANT " + quant + ": dot", reader.dot(1, 0, 0, 0), 128 + (3 * quant + 4) / 8);
        }
        checks.wrongHere("QUANT 0 of I", new BitText().head(1, 1).number(256, 32).raw("01").here().raw("00000 0").end(), 4);
        checks.wrongHere("QUANT 0 of P", BitText.flatI(1, 1).number(256, 32).raw("10").here().raw("00000 001 1").end(), 4);
        checks.wrongHere("QUANT 0 of B", BitText.twoToLeanOn(1, 1).number(256, 32).raw("11").here().raw("00000 001 1").end(), 4);
    }

    private static void spans() {
        checks.sentence("SPAN in three bits, 1 to 7, but of I; SQUARES; ALIGN.");
        for (int span = 1; span <= 7; span++) {
            checks.right("SPAN " + span + " of P", BitText.flatI(1, 1).picture(BitText.P, 1, span).u(1), 2);
            checks.right("SPAN " + span + " of B", BitText.twoToLeanOn(1, 1).picture(BitText.B, 1, span)
                    .u(0).raw("0 01 0 1 1"), 3);
        }
        checks.wrongHere("SPAN 0 of P", BitText.flatI(1, 1).number(256, 32).raw("10 00001").here().raw("000 1").end(), 2);
        checks.wrongHere("SPAN 0 of B", BitText.twoToLeanOn(1, 1).number(256, 32).raw("11 00001").here().raw("000 1").end(), 2);
        checks.right("no SPAN of I", new BitText().head(1, 1).number(256, 32).raw("01 00001 0 11 11 11 11 11 11"), 1);
    }

    private static void neitherAPictureNorTheEnd() {
        checks.sentence("32 bits that are neither are wrong at the first one that is in neither.)");
        for (int i = 0; i < 32; i++) {
            // One bit turns the one mark's begin into the other's: then they part two bits later.
            int behind = i == 24 ? 26 : i;
            int[] marks = {256 ^ 1 << (31 - i), 439 ^ 1 << (31 - i)};
            for (int mark : marks) {
                checks.wrongHere("ahead of all: " + mark, new BitText().head(1, 1).here().number(mark, 32).end(), behind);
                checks.wrongHere("behind one: " + mark, BitText.flatI(1, 1).here().number(mark, 32).end(), behind);
            }
        }
        checks.wrongHere("all ones", BitText.flatI(1, 1).here().number(-1, 32), 0);
        checks.wrongHere("all zeros", BitText.flatI(1, 1).here().number(0, 32), 23);
        checks.wrongHere("00000137", BitText.flatI(1, 1).here().number(0x137, 32), 26);
        checks.wrongHere("00000180", BitText.flatI(1, 1).here().number(0x180, 32), 26);
    }
}
