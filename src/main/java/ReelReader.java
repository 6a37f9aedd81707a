import java.util.Arrays;
import java.util.NoSuchElementException;

/** Reads a stream of moving pictures; the document (DOC.md) says what each call promises. */
public final class ReelReader {
    public static final int NONE = -1;

    private static final int SORT_I = 1;
    private static final int SORT_P = 2;

    private static final int FORWARD = 2;
    private static final int BACKWARD = 1;

    /** The places of what look() tells. */
    private static final int WIDTH = 0;
    private static final int HEIGHT = 1;
    private static final int SHOWN = 2;
    private static final int WHOLE = 3;
    private static final int SQUARES = 4;
    private static final int PASSED_OVER = 5;
    private static final int BLOCKS = 6;
    private static final int LEVELS = 7;

    /** The places of what shown() tells. */
    private static final int FACT_SORT = 0;
    private static final int FACT_NUMBER = 1;
    private static final int FACT_INNER = 2;
    private static final int FACT_PASSED_OVER = 3;

    private static final int BYTES_OF_A_FEED = 20;

    private final Tape tape;
    private final Reel reel;
    private final StreamReader stream;

    public ReelReader() {
        tape = new Tape();
        reel = new Reel();
        stream = new StreamReader(tape, reel);
    }

    public int feed(int a, int b, int c, int d, int e) {
        int count = tape.byteCount();
        if (count + BYTES_OF_A_FEED > Tape.MOST_BYTES) {
            return NONE;
        }
        tape.cut(count);
        tape.append(a, 32);
        tape.append(b, 32);
        tape.append(c, 32);
        tape.append(d, 32);
        tape.append(e, 32);
        return tape.byteCount();
    }

    public boolean end(int n) {
        return tape.cut(n);
    }

    public int bits(int v, int n) {
        return tape.append(v, n);
    }

    public int read() {
        reel.clear();
        tape.rewind();
        try {
            stream.readSize();
            // No picture is shorter than a byte, so the tape ends ahead of the counter.
            for (int number = 0; number < Tape.MOST_BYTES && stream.pictureComes(); number++) {
                stream.readPicture(number);
            }
        } catch (IllegalStateException somethingWrong) {
            // The tape knows which bit it was; all that was whole ahead of it counts.
        }
        reel.finish();
        tape.cut(0);
        return reel.tally[SHOWN];
    }

    public int wrong() {
        return tape.wrongBit;
    }

    public int look(int what) throws NoSuchElementException {
        if (what < 0 || what >= reel.tally.length) {
            throw new NoSuchElementException();
        }
        return reel.tally[what];
    }

    public int shown(int k, int what) throws NoSuchElementException {
        Picture picture = reel.keptPicture(k);
        if (picture == null || what < 0 || what >= picture.facts.length) {
            throw new NoSuchElementException();
        }
        return picture.facts[what];
    }

    public int dot(int k, int plane, int x, int y) {
        Plane kept = reel.keptPlane(k, plane);
        return kept == null ? NONE : kept.dotOrNone(x, y);
    }

    public int sum(int k, int plane) {
        Plane kept = reel.keptPlane(k, plane);
        return kept == null ? NONE : kept.numberedTotal();
    }

    private static int held(int value, int low, int high) {
        return value < low ? low : value > high ? high : value;
    }

    /** The bits: written behind one another, then read from the first one on. */
    private static final class Tape {
        static final int MOST_BYTES = 4000;
        static final int MOST_ZEROS = 20;
        static final int MOST_UNSIGNED = (2 << MOST_ZEROS) - 2;

        final byte[] bytes = new byte[MOST_BYTES];
        /** In bits, those of no whole byte, too. */
        int length;
        int position;
        int wrongBit = NONE;

        int byteCount() {
            return (length + 7) >> 3;
        }

        boolean cut(int count) {
            if (count < 0 || count > byteCount()) {
                return false;
            }
            length = 8 * count;
            return true;
        }

        int append(int value, int count) {
            if (count < 1 || count > 32 || length + count > 8 * MOST_BYTES) {
                return NONE;
            }
            for (int shift = count - 1; shift >= 0; shift--) {
                appendBit((value >> shift) & 1);
            }
            return length;
        }

        private void appendBit(int bit) {
            int index = length >> 3;
            int place = length & 7;
            // A byte that an earlier stream or a cut left behind must not shine through.
            int before = place == 0 ? 0 : bytes[index];
            bytes[index] = (byte) (before | bit << (7 - place));
            length++;
        }

        void rewind() {
            cut(byteCount());
            position = 0;
            wrongBit = NONE;
        }

        void failAt(int bit) {
            wrongBit = bit;
            throw new IllegalStateException();
        }

        int next() {
            if (position >= length) {
                // Not by failAt(): this is the deepest call of all, and one more is too deep.
                wrongBit = length;
                throw new IllegalStateException();
            }
            int bit = (bytes[position >> 3] >> (7 - (position & 7))) & 1;
            position++;
            return bit;
        }

        int number(int count) {
            int value = 0;
            for (int i = 0; i < count; i++) {
                value = 2 * value + next();
            }
            return value;
        }

        /** A number that is not 0: that it can't be is seen at its last bit. */
        int nonZero(int count) {
            int value = number(count);
            if (value == 0) {
                failAt(position - 1);
            }
            return value;
        }

        void expect(int value, int count) {
            for (int shift = count - 1; shift >= 0; shift--) {
                if (next() != ((value >> shift) & 1)) {
                    failAt(position - 1);
                }
            }
        }

        void align() {
            expect(0, -position & 7);
        }

        /** A U, wrong at its first bit if it is above most. */
        int unsigned(int most) {
            int begin = position;
            int zeros = 0;
            while (zeros <= MOST_ZEROS && next() == 0) {
                zeros++;
            }
            if (zeros > MOST_ZEROS) {
                failAt(position - 1);
            }
            int behind = 0;
            for (int i = 0; i < zeros; i++) {
                behind = 2 * behind + next();
            }
            int value = (1 << zeros) - 1 + behind;
            if (value > most) {
                failAt(begin);
            }
            return value;
        }

        /** An S, wrong at its first bit if it is not from low to high. */
        int signed(int low, int high) {
            int begin = position;
            int n = unsigned(MOST_UNSIGNED);
            int value = (n & 1) == 1 ? (n + 1) / 2 : -(n / 2);
            if (value < low || value > high) {
                failAt(begin);
            }
            return value;
        }
    }

    /** One plane of a picture: squares of side x side dots. */
    private static final class Plane {
        final int side;
        int width;
        int height;
        int[] dots = new int[0];

        Plane(int side) {
            this.side = side;
        }

        void resize(int squaresAcross, int squaresDown) {
            width = side * squaresAcross;
            height = side * squaresDown;
            if (dots.length < width * height) {
                dots = new int[width * height];
            }
        }

        void copyFrom(Plane other) {
            System.arraycopy(other.dots, 0, dots, 0, width * height);
        }

        int dotOrNone(int x, int y) {
            if (x < 0 || x >= width || y < 0 || y >= height) {
                return NONE;
            }
            return dots[y * width + x];
        }

        int numberedTotal() {
            int total = 0;
            for (int i = 0; i < width * height; i++) {
                total += dots[i] * (i + 1);
            }
            return total;
        }

        /** Foretells a square from another plane; mixed: evenly with what stands here already. */
        void foretell(Plane from, int column, int row, int[] vector, boolean mixed) {
            int across = side == 16 ? vector[0] : vector[0] / 2;
            int down = side == 16 ? vector[1] : vector[1] / 2;
            int left = side * column;
            int top = side * row;
            for (int y = top; y < top + side; y++) {
                int begin = y * width + left;
                if (across == 0 && down == 0 && !mixed) {
                    System.arraycopy(from.dots, begin, dots, begin, side);
                } else {
                    foretellLine(from, begin, 2 * left + across, 2 * y + down, mixed);
                }
            }
        }

        /**
         * One line of a square, from a place in halves. Where a place is whole both of its
         * neighbours are the same dot: then the mean of four is that of two, or the dot itself.
         */
        private void foretellLine(Plane from, int begin, int halfX, int halfY, boolean mixed) {
            int above = width * held(halfY >> 1, 0, height - 1);
            int below = width * held((halfY + 1) >> 1, 0, height - 1);
            for (int i = 0; i < side; i++) {
                int left = held((halfX >> 1) + i, 0, width - 1);
                int right = held(((halfX + 1) >> 1) + i, 0, width - 1);
                int around = from.dots[above + left] + from.dots[above + right]
                        + from.dots[below + left] + from.dots[below + right];
                int told = (around + 2) >> 2;
                dots[begin + i] = mixed ? (dots[begin + i] + told + 1) >> 1 : told;
            }
        }

        void draw(int[] sums, int left, int top, boolean inner) {
            for (int y = 0; y < 8; y++) {
                int begin = (top + y) * width + left;
                for (int x = 0; x < 8; x++) {
                    int foretold = inner ? 0 : dots[begin + x];
                    dots[begin + x] = held(foretold + sums[8 * y + x], 0, 255);
                }
            }
        }
    }

    private static final class Picture {
        final Plane[] planes = {new Plane(16), new Plane(8), new Plane(8)};
        final int[] facts = new int[4];

        void resize(int across, int down) {
            for (int i = 0; i < planes.length; i++) {
                planes[i].resize(across, down);
            }
        }

        void copyFrom(Picture other) {
            for (int i = 0; i < planes.length; i++) {
                planes[i].copyFrom(other.planes[i]);
            }
            System.arraycopy(other.facts, 0, facts, 0, facts.length);
        }
    }

    /** The pictures of one stream: those that are leant on, and those that were shown. */
    private static final class Reel {
        static final int MOST_KEPT = 20;

        final int[] tally = new int[8];
        final Picture[] kept = new Picture[MOST_KEPT];
        /** How many squares; never 0, for columns are found by dividing. */
        int across = 1;
        int down = 1;
        Picture now = new Picture();
        Picture latest = new Picture();
        Picture older = new Picture();
        /** How many whole pictures can be leant on: the latest one, then the older one, too. */
        int leanable;

        void clear() {
            Arrays.fill(tally, 0);
            leanable = 0;
        }

        void setSize(int squaresAcross, int squaresDown) {
            across = squaresAcross;
            down = squaresDown;
            tally[WIDTH] = 16 * across;
            tally[HEIGHT] = 16 * down;
        }

        void begin(int sort, int number) {
            now.resize(across, down);
            now.facts[FACT_SORT] = sort;
            now.facts[FACT_NUMBER] = number;
            now.facts[FACT_INNER] = 0;
            now.facts[FACT_PASSED_OVER] = 0;
        }

        void takeWhole() {
            tally[WHOLE]++;
            int sort = now.facts[FACT_SORT];
            if (sort != SORT_I && sort != SORT_P) {
                show(now);
                return;
            }
            if (leanable > 0) {
                show(latest);
            }
            Picture free = older;
            older = latest;
            latest = now;
            now = free;
            leanable = Math.min(2, leanable + 1);
        }

        void finish() {
            if (leanable > 0) {
                show(latest);
            }
        }

        private void show(Picture picture) {
            int k = tally[SHOWN];
            tally[SHOWN]++;
            if (k >= MOST_KEPT) {
                return;
            }
            Picture copy = kept[k];
            if (copy == null) {
                copy = new Picture();
                kept[k] = copy;
            }
            copy.resize(across, down);
            copy.copyFrom(picture);
        }

        Picture keptPicture(int k) {
            return k < 0 || k >= MOST_KEPT || k >= tally[SHOWN] ? null : kept[k];
        }

        Plane keptPlane(int k, int plane) {
            Picture picture = keptPicture(k);
            if (picture == null || plane < 0 || plane >= picture.planes.length) {
                return null;
            }
            return picture.planes[plane];
        }
    }

    /** One block of 8 x 8: its factors, and the sums that they make. */
    private static final class Block {
        static final int[] ZIGZAG = {
            0, 1, 8, 16, 9, 2, 3, 10, 17, 24, 32, 25, 18, 11, 4, 5,
            12, 19, 26, 33, 40, 48, 41, 34, 27, 20, 13, 6, 7, 14, 21, 28,
            35, 42, 49, 56, 57, 50, 43, 36, 29, 22, 15, 23, 30, 37, 44, 51,
            58, 59, 52, 45, 38, 31, 39, 46, 53, 60, 61, 54, 47, 55, 62, 63,
        };
        /** C(k, x) at 8 k + x. */
        static final int[] COSINES = {
            2896, 2896, 2896, 2896, 2896, 2896, 2896, 2896,
            4017, 3406, 2276, 799, -799, -2276, -3406, -4017,
            3784, 1567, -1567, -3784, -3784, -1567, 1567, 3784,
            3406, -799, -4017, -2276, 2276, 4017, 799, -3406,
            2896, -2896, -2896, 2896, 2896, -2896, -2896, 2896,
            2276, -4017, 799, 3406, -3406, -799, 4017, -2276,
            1567, -3784, 3784, -1567, -1567, 3784, -3784, 1567,
            799, -2276, 3406, -4017, 4017, -3406, 2276, -799,
        };

        final int[] factors = new int[64];
        final int[] sums = new int[64];
        int total;
        /** Bit v: row v of the factors is not all 0 (the others add nothing to the sums). */
        int rows;

        void clear() {
            Arrays.fill(factors, 0);
            total = 0;
            rows = 0;
        }

        void putDc(int dc) {
            put(0, 8 * dc);
        }

        void putLevel(int step, int level, int quant, boolean inner) {
            int place = ZIGZAG[step];
            int weight = Math.min(38, 8 + 2 * ((place & 7) + (place >> 3)));
            int factor = inner
                    ? level * weight * quant / 8
                    : (2 * level + (level > 0 ? 1 : -1)) * quant;
            put(place, held(factor, -2048, 2047));
        }

        private void put(int place, int factor) {
            factors[place] = factor;
            total += factor;
            rows |= 1 << (place >> 3);
        }

        void makeSums() {
            if ((total & 1) == 0) {
                factors[63] ^= 1;
                rows |= 1 << 7;
            }
            Arrays.fill(sums, 16384);
            for (int v = 0; v < 8; v++) {
                if (((rows >> v) & 1) == 1) {
                    addRow(v);
                }
            }
            for (int i = 0; i < sums.length; i++) {
                sums[i] >>= 15;
            }
        }

        private void addRow(int v) {
            for (int x = 0; x < 8; x++) {
                int across = 1024;
                for (int u = 0; u < 8; u++) {
                    across += factors[8 * v + u] * COSINES[8 * u + x];
                }
                across >>= 11;
                for (int y = 0; y < 8; y++) {
                    sums[8 * y + x] += across * COSINES[8 * v + y];
                }
            }
        }
    }

    /** Goes through the stream's bits and draws what they tell. */
    private static final class StreamReader {
        static final int STREAM_MARK = 21074;
        static final int FIRST_DC = 128;
        static final int MOST_LEVEL = 2047;
        static final int ALL_BLOCKS = 63;

        final Tape tape;
        final Reel reel;
        final Block block = new Block();
        final int[] dcs = new int[3];
        /** Across and down, as foretold: these are those of the latest square that has them, too. */
        final int[] forward = new int[2];
        final int[] backward = new int[2];
        int sort;
        int quant;
        int range;
        /** The ways of the square ahead; 0 of an inner one. */
        int waysAhead;

        StreamReader(Tape tape, Reel reel) {
            this.tape = tape;
            this.reel = reel;
        }

        void readSize() {
            tape.expect(STREAM_MARK, 16);
            int across = tape.number(2) + 1;
            int down = tape.number(2) + 1;
            reel.setSize(across, down);
            tape.align();
        }

        /** Both marks, 256 and 439, begin with the same 24 bits and part at the next one. */
        boolean pictureComes() {
            tape.expect(1, 24);
            boolean picture = tape.next() == 0;
            tape.expect(picture ? 256 : 439, 7);
            return picture;
        }

        void readPicture(int number) {
            readHead();
            reel.begin(sort, number);
            int count = reel.across * reel.down;
            for (int at = 0; at < count; at++) {
                if (sort != SORT_I) {
                    at += passOver(at, count);
                }
                if (at < count) {
                    readSquare(at);
                }
            }
            tape.align();
            reel.takeWhole();
        }

        private void readHead() {
            int begin = tape.position;
            sort = tape.nonZero(2);
            int leantOn = sort == SORT_I ? 0 : sort == SORT_P ? 1 : 2;
            if (leantOn > reel.leanable) {
                tape.failAt(begin);
            }
            quant = tape.nonZero(5);
            range = sort == SORT_I ? 0 : 16 << tape.nonZero(3);
        }

        private int passOver(int at, int count) {
            int passed = tape.unsigned(sort == SORT_P ? count - at : mostPassedInB(at));
            for (int i = 0; i < passed; i++) {
                foretellSquare(at + i, sort == SORT_P ? 0 : waysAhead);
            }
            reel.now.facts[FACT_PASSED_OVER] += passed;
            reel.tally[PASSED_OVER] += passed;
            return passed;
        }

        /** In B none that begins a row is passed over, so a run of them ends with the row. */
        private int mostPassedInB(int at) {
            int column = at % reel.across;
            return column == 0 || waysAhead == 0 ? 0 : reel.across - column;
        }

        private void readSquare(int at) {
            if (at % reel.across == 0) {
                forgetDcs();
                forgetVectors();
            }
            boolean inner = sort == SORT_I || tape.next() == 1;
            int ways = inner ? 0 : readWays();
            boolean coded = inner || tape.next() == 1;
            if (coded && tape.next() == 1) {
                quant = tape.nonZero(5);
            }
            if ((ways & FORWARD) != 0) {
                readVector(forward);
            }
            if ((ways & BACKWARD) != 0) {
                readVector(backward);
            }
            int which = inner ? ALL_BLOCKS : coded ? tape.number(6) : 0;
            if (inner) {
                forgetVectors();
                waysAhead = 0;
                reel.now.facts[FACT_INNER]++;
            } else {
                foretellSquare(at, ways);
            }
            for (int i = 0; i < 6; i++) {
                if (((which >> (5 - i)) & 1) == 1) {
                    readBlock(i < 4 ? 0 : i - 3, inner);
                    drawBlock(at, i, inner);
                }
            }
            reel.tally[SQUARES]++;
        }

        private int readWays() {
            if (sort == SORT_P) {
                return tape.next() == 1 ? FORWARD : 0;
            }
            return tape.nonZero(2);
        }

        private void readVector(int[] vector) {
            int half = range / 2;
            for (int i = 0; i < vector.length; i++) {
                int moved = vector[i] + tape.signed(-half, half - 1);
                vector[i] = moved < -half ? moved + range : moved >= half ? moved - range : moved;
            }
        }

        /** No way: one of P that does not move, or is passed over. */
        private void foretellSquare(int at, int ways) {
            forgetDcs();
            if (ways == 0) {
                forgetVectors();
            }
            waysAhead = ways;
            boolean back = (ways & BACKWARD) != 0;
            boolean ahead = ways == 0 || (ways & FORWARD) != 0;
            int column = at % reel.across;
            int row = at / reel.across;
            Picture aheadOn = sort == SORT_P ? reel.latest : reel.older;
            for (int i = 0; i < 3; i++) {
                Plane plane = reel.now.planes[i];
                if (ahead) {
                    plane.foretell(aheadOn.planes[i], column, row, forward, false);
                }
                if (back) {
                    plane.foretell(reel.latest.planes[i], column, row, backward, ahead);
                }
            }
        }

        private void forgetDcs() {
            Arrays.fill(dcs, FIRST_DC);
        }

        private void forgetVectors() {
            Arrays.fill(forward, 0);
            Arrays.fill(backward, 0);
        }

        private void readBlock(int plane, boolean inner) {
            block.clear();
            int step = 0;
            if (inner) {
                dcs[plane] += tape.signed(-dcs[plane], 255 - dcs[plane]);
                block.putDc(dcs[plane]);
                step = 1;
            }
            // At most 64 levels, and the end behind them.
            for (int i = 0; i <= 64; i++) {
                int further = tape.unsigned(64 - step);
                if (further == 0) {
                    break;
                }
                step += further;
                int begin = tape.position;
                int level = tape.signed(-MOST_LEVEL, MOST_LEVEL);
                if (level == 0) {
                    tape.failAt(begin);
                }
                block.putLevel(step - 1, level, quant, inner);
                reel.tally[LEVELS]++;
            }
            reel.tally[BLOCKS]++;
        }

        private void drawBlock(int at, int which, boolean inner) {
            block.makeSums();
            int column = at % reel.across;
            int row = at / reel.across;
            if (which < 4) {
                int left = 16 * column + 8 * (which & 1);
                int top = 16 * row + 8 * (which >> 1);
                reel.now.planes[0].draw(block.sums, left, top, inner);
            } else {
                reel.now.planes[which - 3].draw(block.sums, 8 * column, 8 * row, inner);
            }
        }
    }
}
