/** Terms 3: a block's levels, factors and sums, sentence by sentence. */
public final class BlockTest {
    private static final Checks checks = new Checks("block");
    private static final int NONE = ReelReader.NONE;
    private static final int I = BitText.I;
    private static final int P = BitText.P;
    private static final String WALK = "n: n - 1 places are passed over; the next one has the LEVEL of an S that is not 0";

    public static void main(String[] args) {
        zigzag();
        noneIsTold();
        dcsWithinTheirBounds();
        dcsBeyondTheirBounds();
        whereTheWalkBegins();
        theBlockEnds();
        placesArePassedOver();
        theWalkGoesBeyond();
        levelsAtTheirBounds();
        levelsBeyondTheirBounds();
        dcFactors();
        innerFactors();
        innerFactorsAreRounded();
        otherFactors();
        factorsAreHeld();
        weights();
        theLastBitIsTurned();
        sumsAreCosines();
        sumsAreExact();
        sumsAreRoundedDown();
        sumsAreRoundedAtTheirBounds();
        dotsAreHeld();
        dotsOfOthers();
        checks.finish();
    }

    private static BitText innerBegun(int quant) {
        return new BitText().head(1, 1).picture(I, quant, 0).raw("0");
    }

    /** The other five blocks of an INNER square, with nothing new in them. */
    private static BitText rest(BitText text) {
        return text.raw("11 11 11 11 11");
    }

    /** Sums of factors that are told as place, factor, place, factor and so on. */
    private static int[][] sumsOf(int... placed) {
        int[] factors = new int[64];
        for (int i = 0; i < placed.length; i += 2) {
            factors[placed[i]] = placed[i + 1];
        }
        return PlainModel.sums(factors);
    }

    private static int held(int dot) {
        return Math.max(0, Math.min(255, dot));
    }

    /** The first block of shown picture k must be these factors' sums more than what was foretold. */
    private static void isBlock(String what, ReelReader reader, int k, int foretold, int... placed) {
        int[][] sums = sumsOf(placed);
        for (int y = 0; y < 8; y++) {
            for (int x = 0; x < 8; x++) {
                checks.due(what + ": dot(" + k + ", 0, " + x + ", " + y + ")",
                        reader.dot(k, 0, x, y), held(foretold + sums[y][x]));
            }
        }
    }

    /** A test of the one by its dots is none, if the other one has the same. */
    private static void areUnlike(String what, int foretold, int[] placed, int... others) {
        boolean unlike = false;
        for (int i = 0; i < 64; i++) {
            int one = held(foretold + sumsOf(placed)[i / 8][i % 8]);
            unlike |= one != held(foretold + sumsOf(others)[i / 8][i % 8]);
        }
        checks.due(what + ": other factors show", unlike, true);
    }

    private static void zigzag() {
        checks.sentence("place k = 8 v + u, by the ZIGZAG's order (0, 1, 8, 16, 9, 2, 3, 10, 17, 24, .. 63:");
        int[] begin = {0, 1, 8, 16, 9, 2, 3, 10, 17, 24};
        for (int step = 0; step < 64; step++) {
            int place = step == 63 ? 63 : step < begin.length ? begin[step] : PlainModel.ZIGZAG[step];
            ReelReader reader = checks.right("step " + step, BitText.codedFirst(1).u(step + 1).s(50).u(0), 2);
            isBlock("step " + step, reader, 1, 128, place, 101);
        }
    }

    private static void noneIsTold() {
        checks.sentence("A BLOCK has 64 LEVELS, 0 where none is told;");
        ReelReader reader = checks.right("no LEVEL", BitText.codedFirst(31).u(0), 2);
        checks.due("no LEVEL: sum", reader.sum(1, 0), 128 * 128 * 257);
        checks.looks("no LEVEL", reader, 16, 16, 2, 2, 2, 0, 7, 0);
        // What a block ahead has told is not there in the next one.
        reader = checks.right("the next block", BitText.flatI(1, 1).picture(P, 8, 1).u(0).raw("0 0 1 0 110000")
                .u(1).s(40).u(64 - 1).s(40).u(0).u(0), 2);
        checks.due("the next block: dot", reader.dot(1, 0, 8, 0), 128);
        checks.due("the next block: dot", reader.dot(1, 0, 15, 7), 128);
    }

    /** A DC is reached from 128 in the first block of its plane, and from 0 and 255 in the next one. */
    private static void dcsWithinTheirBounds() {
        checks.sentence("INNER: an S: DC of its PLANE is more by that (wrong at its first bit, if it is not 0 to 255 then);");
        int[] bounds = {0, 255};
        for (int dc : bounds) {
            ReelReader reader = checks.right("DC " + dc, new BitText().head(1, 1).picture(I, 1, 0)
                    .flat(dc - 128, 255 - 2 * dc, 0, 2 * dc - 255, dc - 128, 127 - dc), 1);
            int[] wanted = {dc, 255 - dc, 255 - dc, dc, dc, 255 - dc};
            for (int b = 0; b < 6; b++) {
                int dot = b < 4 ? reader.dot(0, 0, 8 * (b % 2), 8 * (b / 2)) : reader.dot(0, b - 3, 0, 0);
                checks.due("DC " + dc + ": block " + b, dot, wanted[b]);
            }
        }
    }

    private static void dcsBeyondTheirBounds() {
        checks.sentence("DC of its PLANE is more by that (wrong at its first bit, if it is not 0 to 255 then);");
        int[] beyond = {-1, 256, -2, 1000, -1000, 1048703, -1048447};
        for (int dc : beyond) {
            for (int b = 0; b < 6; b++) {
                BitText text = innerBegun(1);
                for (int i = 0; i < b; i++) {
                    text.s(0).u(0);
                }
                ReelReader reader = checks.wrongHere("DC " + dc + " of block " + b, text.here().s(dc - 128).u(0).end(), 0);
                checks.looks("DC " + dc + " of block " + b, reader, 16, 16, 0, 0, 0, 0, b, 0);
            }
        }
        checks.wrongHere("1 beyond 255", innerBegun(1).s(127).u(0).here().s(1).u(0).end(), 0);
        checks.wrongHere("1 below 0", innerBegun(1).s(-128).u(0).here().s(-1).u(0).end(), 0);
        checks.wrongHere("1 beyond 255 in P", BitText.flatI(1, 1).picture(P, 1, 1).u(0).raw("1 0").here().s(128).u(0).end(), 0);
    }

    private static void whereTheWalkBegins() {
        checks.sentence("the walk begins behind place 0. Else it begins at place 0.");
        ReelReader reader = checks.right("INNER", rest(innerBegun(8).s(2).u(1).s(5).u(0)), 1);
        isBlock("INNER", reader, 0, 0, 0, 8 * 130, 1, 50, 63, 1);
        reader = checks.right("INNER of P", rest(BitText.flatI(1, 1).picture(P, 8, 1).u(0).raw("1 0").s(2).u(1).s(5).u(0)), 2);
        isBlock("INNER of P", reader, 1, 0, 0, 8 * 130, 1, 50, 63, 1);
        reader = checks.right("not INNER", BitText.codedFirst(7).u(1).s(5).u(0), 2);
        isBlock("not INNER", reader, 1, 128, 0, 77);
    }

    private static void theBlockEnds() {
        checks.sentence("Then as often as one comes: a U: 0: the BLOCK ends;");
        for (int count = 0; count <= 64; count++) {
            BitText text = BitText.codedFirst(1);
            for (int i = 0; i < count; i++) {
                text.u(1).s(i % 2 == 0 ? 1 : -1);
            }
            ReelReader reader = checks.right(count + " LEVELS", text.u(0), 2);
            checks.looks(count + " LEVELS", reader, 16, 16, 2, 2, 2, 0, 7, count);
        }
        BitText text = innerBegun(1).s(0);
        for (int i = 0; i < 63; i++) {
            text.u(1).s(1);
        }
        ReelReader reader = checks.right("INNER with 63", rest(text.u(0)), 1);
        checks.looks("INNER with 63", reader, 16, 16, 1, 1, 1, 0, 6, 63);
    }

    private static void placesArePassedOver() {
        checks.sentence(WALK);
        // Steps 2, 5, 6 and 63 of the zigzag are places 8, 2, 3 and 63.
        ReelReader reader = checks.right("not INNER", BitText.codedFirst(1).u(3).s(30).u(3).s(-20).u(1).s(9).u(57).s(4).u(0), 2);
        isBlock("not INNER", reader, 1, 128, 8, 61, 2, -41, 3, 19, 63, 9 ^ 1);
        // Steps 3 and 5 are places 16 and 2, with W 12 each.
        reader = checks.right("INNER", rest(innerBegun(4).s(0).u(3).s(30).u(2).s(-20).u(0)), 1);
        isBlock("INNER", reader, 0, 0, 0, 1024, 16, 180, 2, -120, 63, 1);
    }

    private static void theWalkGoesBeyond() {
        checks.sentence("(wrong at the U's first bit, if the walk would go beyond 63;");
        int[] beyond = {65, 66, 1000, 2097150};
        for (int n : beyond) {
            ReelReader reader = checks.wrongHere("U " + n, BitText.codedFirst(1).here().u(n).s(1).u(0).end(), 0);
            checks.looks("U " + n, reader, 16, 16, 1, 1, 1, 0, 6, 0);
            checks.wrongHere("INNER, U " + n, innerBegun(1).s(0).here().u(n - 1).s(1).u(0).end(), 0);
        }
        checks.right("U 64", BitText.codedFirst(1).u(64).s(1).u(0), 2);
        checks.right("INNER, U 63", rest(innerBegun(1).s(0).u(63).s(1).u(0)), 1);
        checks.right("10 and 54", BitText.codedFirst(1).u(10).s(1).u(54).s(1).u(0), 2);
        ReelReader reader = checks.wrongHere("10 and 55", BitText.codedFirst(1).u(10).s(1).here().u(55).s(1).u(0).end(), 0);
        checks.looks("10 and 55", reader, 16, 16, 1, 1, 1, 0, 6, 1);
        // Behind place 63 nothing but the block's end can come.
        checks.wrongHere("behind place 63", BitText.codedFirst(1).u(64).s(1).here().u(1).s(1).u(0).end(), 0);
        checks.wrongHere("INNER, behind place 63", innerBegun(1).s(0).u(63).s(1).here().u(1).s(1).u(0).end(), 0);
    }

    private static void levelsAtTheirBounds() {
        checks.sentence("at the S's first bit, if it is 0 or beyond 2047 or below - 2047).");
        int[] bounds = {1, -1, 2046, -2046, 2047, -2047};
        for (int level : bounds) {
            ReelReader reader = checks.right("LEVEL " + level, BitText.codedFirst(1).u(1).s(level).u(0), 2);
            checks.looks("LEVEL " + level, reader, 16, 16, 2, 2, 2, 0, 7, 1);
            checks.right("INNER, LEVEL " + level, rest(innerBegun(1).s(0).u(1).s(level).u(0)), 1);
        }
    }

    private static void levelsBeyondTheirBounds() {
        checks.sentence("at the S's first bit, if it is 0 or beyond 2047 or below - 2047).");
        int[] beyond = {0, 2048, -2048, 2049, -2049, 1048575, -1048575};
        for (int level : beyond) {
            BitText text = BitText.codedFirst(1).u(2).s(1).u(3).here().s(level).u(0).end();
            ReelReader reader = checks.wrongHere("LEVEL " + level, text, 0);
            checks.looks("LEVEL " + level, reader, 16, 16, 1, 1, 1, 0, 6, 1);
            checks.wrongHere("INNER, LEVEL " + level, innerBegun(1).s(0).u(1).here().s(level).u(0).end(), 0);
        }
    }

    private static void dcFactors() {
        checks.sentence("FACTORS: INNER place 0: 8 DC.");
        for (int dc = 0; dc < 256; dc++) {
            // Whatever QUANT is.
            int quant = 1 + dc % 31;
            ReelReader reader = checks.right("DC", new BitText().head(1, 1).picture(I, quant, 0).flat(dc - 128, 0, 0, 0, 0, 0), 1);
            checks.due("DC " + dc, reader.sum(0, 0), 128 * 257 * dc);
        }
    }

    private static void innerFactors() {
        checks.sentence("Else LEVEL L: INNER: L W QUANT / 8, rounded to 0;");
        int[][] wanted = {{1, 100, 125}, {8, 30, 300}, {31, -20, -775}, {16, -1, -20}, {4, 9, 45}};
        for (int[] one : wanted) {
            ReelReader reader = checks.right("INNER", rest(innerBegun(one[0]).s(0).u(1).s(one[1]).u(0)), 1);
            int last = one[2] % 2 == 0 ? 1 : 0;
            isBlock("QUANT " + one[0] + ", L " + one[1], reader, 0, 0, 0, 1024, 1, one[2], 63, last);
        }
    }

    private static void innerFactorsAreRounded() {
        checks.sentence("INNER: L W QUANT / 8, rounded to 0;");
        // 20 / 8 is 2 and a half, on both sides of 0.
        ReelReader reader = checks.right("2.5", rest(innerBegun(2).s(0).u(1).s(1).u(0)), 1);
        isBlock("2.5", reader, 0, 0, 0, 1024, 1, 2, 63, 1);
        areUnlike("2.5", 0, new int[] {0, 1024, 1, 2, 63, 1}, 0, 1024, 1, 3);
        reader = checks.right("- 2.5", rest(innerBegun(2).s(0).u(1).s(-1).u(0)), 1);
        isBlock("- 2.5", reader, 0, 0, 0, 1024, 1, -2, 63, 1);
        areUnlike("- 2.5", 0, new int[] {0, 1024, 1, -2, 63, 1}, 0, 1024, 1, -3);
    }

    private static void otherFactors() {
        checks.sentence("not INNER: 2 L + 1 (of L above 0), 2 L - 1 (below 0), 0 of 0, times QUANT;");
        int[][] wanted = {{1, 1, 3}, {1, -1, -3}, {1, 2, 5}, {1, -2, -5}, {31, 1, 93}, {31, -1, -93}, {5, 40, 405}, {5, -40, -405}};
        for (int[] one : wanted) {
            ReelReader reader = checks.right("not INNER", BitText.codedFirst(one[0]).u(1).s(one[1]).u(0), 2);
            isBlock("QUANT " + one[0] + ", L " + one[1], reader, 1, 128, 0, one[2]);
            // At another place there is no W either.
            reader = checks.right("not INNER", BitText.codedFirst(one[0]).u(5).s(one[1]).u(0), 2);
            isBlock("QUANT " + one[0] + ", L " + one[1], reader, 1, 128, 9, one[2]);
        }
        areUnlike("2 L", 128, new int[] {0, 5}, 0, 4, 63, 1);
        areUnlike("- 2 L", 128, new int[] {0, -5}, 0, -4, 63, 1);
    }

    /** Factors of both signs take one another away, and a small one shows by how much. */
    private static void factorsAreHeld() {
        checks.sentence("times QUANT; held within - 2048 and 2047.");
        // Steps 0, 14 and 10 of the zigzag are places 0, 4 and 32.
        ReelReader reader = checks.right("not INNER", BitText.codedFirst(1).u(1).s(1024).u(10).s(2).u(4).s(-1024).u(0), 2);
        int[] placed = {0, 2047, 4, -2048, 32, 5, 63, 1};
        isBlock("not INNER", reader, 1, 128, placed);
        areUnlike("2046", 128, placed, 0, 2046, 4, -2048, 32, 5);
        areUnlike("2048", 128, placed, 0, 2048, 4, -2048, 32, 5);
        areUnlike("- 2047", 128, placed, 0, 2047, 4, -2047, 32, 5);
        areUnlike("- 2049", 128, placed, 0, 2047, 4, -2049, 32, 5);
        reader = checks.right("far beyond", BitText.codedFirst(1).u(1).s(2047).u(10).s(2).u(4).s(-2047).u(0), 2);
        isBlock("far beyond", reader, 1, 128, placed);
        reader = checks.right("not held yet", BitText.codedFirst(1).u(1).s(1023).u(10).s(2).u(4).s(-1023).u(0), 2);
        isBlock("not held yet", reader, 1, 128, 0, 2047, 4, -2047, 32, 5);
        // INNER: W is 16 at places 32 and 4, and 24 at 36, which is step 39.
        reader = checks.right("INNER", rest(innerBegun(1).s(0).u(10).s(-1025).u(4).s(1024).u(25).s(7).u(0)), 1);
        placed = new int[] {0, 1024, 4, 2047, 32, -2048, 36, 21, 63, 1};
        isBlock("INNER", reader, 0, 0, placed);
        areUnlike("INNER 2048", 0, placed, 0, 1024, 4, 2048, 32, -2048, 36, 21);
        areUnlike("INNER 2046", 0, placed, 0, 1024, 4, 2046, 32, -2048, 36, 21);
        areUnlike("INNER - 2050", 0, placed, 0, 1024, 4, 2047, 32, -2050, 36, 21, 63, 1);
        areUnlike("INNER - 2047", 0, placed, 0, 1024, 4, 2047, 32, -2047, 36, 21);
    }

    private static void weights() {
        checks.sentence("W of place 8 v + u is 8 + 2 (u + v), at most 38.");
        for (int step = 1; step < 64; step++) {
            int place = PlainModel.ZIGZAG[step];
            int factor = 9 * (8 + 2 * (place % 8 + place / 8));
            ReelReader reader = checks.right("W", rest(innerBegun(8).s(0).u(step).s(9).u(0)), 1);
            // All of them are even, so that the last one is turned.
            if (place == 63) {
                isBlock("W of 63", reader, 0, 0, 0, 1024, 63, factor + 1);
            } else {
                isBlock("W of " + place, reader, 0, 0, 0, 1024, place, factor, 63, 1);
            }
        }
    }

    private static void theLastBitIsTurned() {
        checks.sentence("If the sum of all 64 is even the last one's lowest bit is turned.");
        ReelReader reader = checks.right("even", BitText.codedFirst(4).u(1).s(1).u(0), 2);
        isBlock("even", reader, 1, 128, 0, 12, 63, 1);
        areUnlike("even", 128, new int[] {0, 12, 63, 1}, 0, 12);
        reader = checks.right("odd", BitText.codedFirst(1).u(1).s(1).u(0), 2);
        isBlock("odd", reader, 1, 128, 0, 3);
        areUnlike("odd", 128, new int[] {0, 3}, 0, 3, 63, 1);
        // 3 and 9, 3 and - 9: the last one is 8 then, or - 10, for its lowest bit was 1.
        reader = checks.right("9 turned", BitText.codedFirst(1).u(1).s(1).u(63).s(4).u(0), 2);
        isBlock("9 turned", reader, 1, 128, 0, 3, 63, 8);
        areUnlike("9 turned", 128, new int[] {0, 3, 63, 8}, 0, 3, 63, 9);
        areUnlike("9 turned", 128, new int[] {0, 3, 63, 8}, 0, 3, 63, 10);
        reader = checks.right("- 9 turned", BitText.codedFirst(1).u(1).s(1).u(63).s(-4).u(0), 2);
        isBlock("- 9 turned", reader, 1, 128, 0, 3, 63, -10);
        areUnlike("- 9 turned", 128, new int[] {0, 3, 63, -10}, 0, 3, 63, -9);
        areUnlike("- 9 turned", 128, new int[] {0, 3, 63, -10}, 0, 3, 63, -8);
        reader = checks.right("- 3 alone", BitText.codedFirst(1).u(64).s(-1).u(0), 2);
        isBlock("- 3 alone", reader, 1, 128, 63, -3);
        areUnlike("- 3 alone", 128, new int[] {63, -3}, 63, -4);
        // Each block has a sum of its own: 3, and 3 again.
        reader = checks.right("two odd ones", BitText.flatI(1, 1).picture(P, 1, 1).u(0).raw("0 0 1 0 110000")
                .u(1).s(1).u(0).u(1).s(1).u(0), 2);
        for (int i = 0; i < 64; i++) {
            checks.due("two odd ones: dot", reader.dot(1, 0, 8 + i % 8, i / 8), reader.dot(1, 0, i % 8, i / 8));
        }
        // - 8190 and 4002, which are even: the sum is that of what was held.
        reader = checks.right("held first", BitText.codedFirst(2).u(1).s(-2047).u(5).s(1000).u(0), 2);
        isBlock("held first", reader, 1, 128, 0, -2048, 2, 2047);
        areUnlike("held first", 128, new int[] {0, -2048, 2, 2047}, 0, -2048, 2, 2047, 63, 1);
    }

    /** The sums must be near to those of the cosines themselves, at every place. */
    private static void sumsAreCosines() {
        checks.sentence("SUMS: C(k, x), for x 0 to 3:");
        for (int step = 0; step < 64; step++) {
            int place = PlainModel.ZIGZAG[step];
            ReelReader reader = checks.right("cosines", BitText.codedFirst(31).u(step + 1).s(-4).u(0), 2);
            for (int i = 0; i < 64; i++) {
                double ideal = 128 - 279 * wave(i % 8, place % 8) * wave(i / 8, place / 8) / 4;
                int dot = reader.dot(1, 0, i % 8, i / 8);
                checks.due("place " + place + ", dot " + i + " is " + dot + " near " + ideal, Math.abs(dot - ideal) < 0.6, true);
            }
        }
    }

    /** Blocks of many levels by chance: no cosine could be one more or less. */
    private static void sumsAreExact() {
        checks.sentence("G(v, x) = (sum of all u of F(8 v + u) C(u, x), and 1024) >> 11. "
                + "H(x, y) = (sum of all v of G(v, x) C(v, y), and 16384) >> 15.");
        for (int seed = 0; seed < 250; seed++) {
            Chance chance = new Chance(seed);
            BitText text = BitText.codedFirst(1);
            int[] placed = new int[2 * 10 + 2];
            int step = -1;
            for (int i = 0; i < 10; i++) {
                int further = i == 0 ? chance.from(1, 34) : chance.from(1, 3);
                int level = chance.from(1, 150) * (chance.oneIn(2) ? 1 : -1);
                text.u(further).s(level);
                step += further;
                placed[2 * i] = PlainModel.ZIGZAG[step];
                placed[2 * i + 1] = 2 * level + Integer.signum(level);
            }
            // Ten odd ones are even together.
            placed[20] = 63;
            placed[21] = 1;
            isBlock("stream " + seed, checks.right("stream " + seed, text.u(0), 2), 1, 128, placed);
        }
    }

    private static double wave(int x, int k) {
        return k == 0 ? Math.sqrt(0.5) : Math.cos((2 * x + 1) * k * Math.PI / 16);
    }

    private static void sumsAreRoundedDown() {
        checks.sentence("a >> n is a divided by 2 to the n, rounded down.");
        // Factor - 12: G is (- 34752 + 1024) >> 11, - 17; H is (- 49232 + 16384) >> 15, - 2.
        ReelReader reader = checks.right("- 12", BitText.codedFirst(4).u(1).s(-1).u(0), 2);
        checks.due("- 12: dot", reader.dot(1, 0, 0, 0), 126);
        // Factor - 5: G is (- 14480 + 1024) >> 11, - 7; H is (- 20272 + 16384) >> 15, - 1.
        reader = checks.right("- 5", BitText.codedFirst(1).u(1).s(-2).u(0), 2);
        checks.due("- 5: dot", reader.dot(1, 0, 0, 0), 127);
        // Factor - 3: G is (- 8688 + 1024) >> 11, - 4; H is (- 11584 + 16384) >> 15, 0.
        reader = checks.right("- 3", BitText.codedFirst(1).u(1).s(-1).u(0), 2);
        checks.due("- 3: dot", reader.dot(1, 0, 0, 0), 128);
        // Factor 5: G is (14480 + 1024) >> 11, 7; H is (20272 + 16384) >> 15, 1.
        reader = checks.right("5", BitText.codedFirst(1).u(1).s(2).u(0), 2);
        checks.due("5: dot", reader.dot(1, 0, 0, 0), 129);
    }

    /** With one more or less than 1024 or 16384 each of these dots would be another one. */
    private static void sumsAreRoundedAtTheirBounds() {
        checks.sentence("and 1024) >> 11. H(x, y) = (sum of all v of G(v, x) C(v, y), and 16384) >> 15.");
        ReelReader reader = checks.right("1025", BitText.codedFirst(1).u(1).s(-2).u(1).s(72).u(0), 2);
        checks.due("1025: dot", reader.dot(1, 0, 3, 1), 132);
        reader = checks.right("1023", BitText.codedFirst(1).u(6).s(68).u(1).s(99).u(0), 2);
        checks.due("1023: dot", reader.dot(1, 0, 5, 3), 154);
        reader = checks.right("16385", BitText.codedFirst(1).u(5).s(-51).u(4).s(78).u(0), 2);
        checks.due("16385: dot", reader.dot(1, 0, 1, 5), 127);
        reader = checks.right("16383", BitText.codedFirst(1).u(4).s(92).u(6).s(71).u(0), 2);
        checks.due("16383: dot", reader.dot(1, 0, 3, 2), 91);
    }

    private static void dotsAreHeld() {
        checks.sentence("An INNER BLOCK's DOT is H, another one's what was foretold and H, each held within 0 and 255.");
        // Place 1 makes the left side brighter, the right one darker.
        int[] dcs = {0, 255};
        for (int dc : dcs) {
            ReelReader reader = checks.right("INNER", rest(innerBegun(8).s(dc - 128).u(1).s(20).u(0)), 1);
            isBlock("INNER", reader, 0, 0, 0, 8 * dc, 1, 200, 63, 1);
            checks.due("INNER: left", reader.dot(0, 0, 0, 0), dc == 0 ? 35 : 255);
            checks.due("INNER: right", reader.dot(0, 0, 7, 0), dc == 0 ? 0 : 220);
            reader = checks.right("not INNER", new BitText().head(1, 1).picture(I, 1, 0).flat(dc - 128, 0, 0, 0, 0, 0).align()
                    .picture(P, 1, 1).u(0).raw("0 0 1 0 100000").u(2).s(100).u(0), 2);
            isBlock("not INNER", reader, 1, dc, 1, 201);
            checks.due("not INNER: left", reader.dot(1, 0, 0, 0), dc == 0 ? 35 : 255);
            checks.due("not INNER: right", reader.dot(1, 0, 7, 0), dc == 0 ? 0 : 220);
        }
        ReelReader reader = checks.right("brightest", BitText.codedFirst(31).u(1).s(2047).u(0), 2);
        checks.due("brightest: dot", reader.dot(1, 0, 4, 4), 255);
        reader = checks.right("darkest", BitText.codedFirst(31).u(1).s(-2047).u(0), 2);
        checks.due("darkest: dot", reader.dot(1, 0, 4, 4), 0);
    }

    private static void dotsOfOthers() {
        checks.sentence("(DOT x, y of the BLOCK; without a coded BLOCK what was foretold.)");
        // u goes across, v down.
        ReelReader reader = checks.right("u", BitText.codedFirst(1).u(2).s(100).u(0), 2);
        checks.due("u: the same downward", reader.dot(1, 0, 0, 7), reader.dot(1, 0, 0, 0));
        checks.due("u: darker to the right", reader.dot(1, 0, 7, 0) < reader.dot(1, 0, 0, 0), true);
        reader = checks.right("v", BitText.codedFirst(1).u(3).s(100).u(0), 2);
        checks.due("v: the same to the right", reader.dot(1, 0, 7, 0), reader.dot(1, 0, 0, 0));
        checks.due("v: darker downward", reader.dot(1, 0, 0, 7) < reader.dot(1, 0, 0, 0), true);
        // Only the third block is coded; all the others are the ramp, moved.
        Ramp rising = Ramp.rising(1, 1);
        BitText text = rising.write(new BitText().head(1, 1), I).picture(P, 1, 1).u(0).raw("0 1 1 0").s(5).s(3)
                .raw("001000").u(1).s(20).u(0);
        reader = checks.right("moved", text, 2);
        for (int i = 0; i < 256; i++) {
            int x = i % 16;
            int y = i / 16;
            int more = x < 8 && y >= 8 ? 5 : 0;
            checks.due("moved: dot " + i, reader.dot(1, 0, x, y), rising.moved(0, x, y, 5, 3) + more);
        }
        checks.due("moved: second plane", reader.dot(1, 1, 3, 3), rising.moved(1, 3, 3, 5, 3));
        checks.due("moved: no such dot", reader.dot(1, 1, 8, 3), NONE);
    }
}
