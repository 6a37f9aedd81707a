import java.util.ArrayList;
import java.util.List;

/**
 * The document once more, as slowly and as near to its words as can be: it reads a text of 0 and
 * 1, takes the foretold dots one by one, and shares no table with the program.
 */
final class PlainModel {
    static final class Wrong extends Exception {
        private static final long serialVersionUID = 1L;
        final int bit;

        Wrong(int bit) {
            super("bit " + bit);
            this.bit = bit;
        }
    }

    static final class Still {
        int sort;
        int number;
        int inner;
        int passed;
        int[][][] dots;
    }

    static final class Told {
        boolean inner;
        boolean forward;
        boolean backward;
        int[] ahead = {0, 0};
        int[] back = {0, 0};
    }

    final String bits;
    int at;
    int wrong = -1;
    int across;
    int down;
    final int[] look = new int[8];
    final List<Still> shown = new ArrayList<>();
    private final List<Still> leant = new ArrayList<>();
    private final int[] dc = new int[3];
    private int[] ahead = {0, 0};
    private int[] back = {0, 0};
    private Still now;
    private int quant;
    private int r;
    static final int[] ZIGZAG = slants();

    PlainModel(String bits) {
        StringBuilder whole = new StringBuilder(bits);
        while (whole.length() % 8 != 0) {
            whole.append('0');
        }
        this.bits = whole.toString();
        try {
            stream();
        } catch (Wrong thing) {
            wrong = thing.bit;
        }
        if (!leant.isEmpty()) {
            shown.add(leant.get(leant.size() - 1));
        }
        look[2] = shown.size();
    }

    private static int[] slants() {
        int[] order = new int[64];
        int n = 0;
        for (int slant = 0; slant < 15; slant++) {
            for (int i = 0; i <= slant; i++) {
                int v = slant % 2 == 1 ? i : slant - i;
                int u = slant - v;
                if (u < 8 && v < 8) {
                    order[n++] = 8 * v + u;
                }
            }
        }
        return order;
    }

    private int bit() throws Wrong {
        if (at == bits.length()) {
            throw new Wrong(bits.length());
        }
        return bits.charAt(at++) - '0';
    }

    private int bits(int n) throws Wrong {
        int value = 0;
        for (int i = 0; i < n; i++) {
            value = value << 1 | bit();
        }
        return value;
    }

    private int notZero(int n) throws Wrong {
        int value = bits(n);
        if (value == 0) {
            throw new Wrong(at - 1);
        }
        return value;
    }

    private int u() throws Wrong {
        int z = 0;
        while (bit() == 0) {
            z++;
            if (z == 21) {
                throw new Wrong(at - 1);
            }
        }
        return bits(z) + (1 << z) - 1;
    }

    private int s() throws Wrong {
        int n = u();
        return n % 2 == 1 ? (n + 1) / 2 : -n / 2;
    }

    private void align() throws Wrong {
        while (at % 8 != 0) {
            if (bit() == 1) {
                throw new Wrong(at - 1);
            }
        }
    }

    /** Which of the words comes; wrong at the first bit with which none of them begins. */
    private int oneOf(int length, int... words) throws Wrong {
        int value = 0;
        for (int n = 1; n <= length; n++) {
            value = value << 1 | bit();
            boolean begins = false;
            for (int word : words) {
                begins |= word >> (length - n) == value;
            }
            if (!begins) {
                throw new Wrong(at - 1);
            }
        }
        return value;
    }

    private void stream() throws Wrong {
        oneOf(16, 0x5252);
        across = bits(2) + 1;
        down = bits(2) + 1;
        look[0] = 16 * across;
        look[1] = 16 * down;
        align();
        while (oneOf(32, 0x100, 0x1B7) == 0x100) {
            picture();
        }
    }

    private void picture() throws Wrong {
        int first = at;
        now = new Still();
        now.sort = notZero(2);
        if (leant.size() < now.sort - 1) {
            throw new Wrong(first);
        }
        now.number = look[3];
        now.dots = new int[][][] {new int[16 * down][16 * across],
            new int[8 * down][8 * across], new int[8 * down][8 * across]};
        quant = notZero(5);
        if (now.sort != 1) {
            r = 1 << (4 + notZero(3));
        }
        squares();
        align();
        look[3]++;
        if (now.sort == 3) {
            shown.add(now);
        } else {
            if (!leant.isEmpty()) {
                shown.add(leant.get(leant.size() - 1));
            }
            leant.add(now);
        }
    }

    private void squares() throws Wrong {
        Told[] told = new Told[across * down];
        int n = 0;
        while (n < told.length) {
            if (now.sort != 1) {
                int first = at;
                int over = u();
                if (n + over > told.length) {
                    throw new Wrong(first);
                }
                for (int i = 0; now.sort == 3 && i < over; i++) {
                    boolean none = (n + i) % across == 0;
                    // Behind a passed over one there is one that is not INNER.
                    if (none || i == 0 && told[n - 1].inner) {
                        throw new Wrong(first);
                    }
                }
                for (int i = 0; i < over; i++) {
                    told[n] = passedOver(n, n == 0 ? null : told[n - 1]);
                    n++;
                }
                look[5] += over;
                now.passed += over;
                if (n == told.length) {
                    return;
                }
            }
            told[n] = square(n);
            n++;
        }
    }

    private Told passedOver(int n, Told before) {
        Told told = new Told();
        dc[0] = dc[1] = dc[2] = 128;
        if (now.sort == 2) {
            told.forward = true;
            ahead = new int[] {0, 0};
            back = new int[] {0, 0};
        } else {
            told = before;
        }
        foretell(n, told);
        return told;
    }

    private Told square(int n) throws Wrong {
        if (n % across == 0) {
            dc[0] = dc[1] = dc[2] = 128;
            ahead = new int[] {0, 0};
            back = new int[] {0, 0};
        }
        Told told = new Told();
        told.inner = now.sort == 1 || bit() == 1;
        boolean coded = false;
        if (!told.inner) {
            told.forward = bit() == 1;
            if (now.sort == 3) {
                told.backward = bit() == 1;
                if (!told.forward && !told.backward) {
                    throw new Wrong(at - 1);
                }
            }
            coded = bit() == 1;
        }
        if ((told.inner || coded) && bit() == 1) {
            quant = notZero(5);
        }
        if (told.forward) {
            ahead = vector(ahead);
            told.ahead = ahead;
        }
        if (told.backward) {
            back = vector(back);
            told.back = back;
        }
        int which = told.inner ? 63 : coded ? bits(6) : 0;
        if (!told.inner) {
            if (now.sort == 2 && !told.forward) {
                told.forward = true;
                ahead = new int[] {0, 0};
                back = new int[] {0, 0};
            }
            foretell(n, told);
        }
        for (int b = 0; b < 6; b++) {
            if ((which & 32 >> b) != 0) {
                block(n, b, told.inner);
            }
        }
        if (told.inner) {
            ahead = new int[] {0, 0};
            back = new int[] {0, 0};
            now.inner++;
        } else {
            dc[0] = dc[1] = dc[2] = 128;
        }
        look[4]++;
        return told;
    }

    private int[] vector(int[] foretold) throws Wrong {
        int[] result = new int[2];
        for (int i = 0; i < 2; i++) {
            int first = at;
            int step = s();
            if (step < -r / 2 || step > r / 2 - 1) {
                throw new Wrong(first);
            }
            result[i] = Math.floorMod(foretold[i] + step + r / 2, r) - r / 2;
        }
        return result;
    }

    private void block(int n, int b, boolean inner) throws Wrong {
        int plane = b < 4 ? 0 : b - 3;
        int[] levels = new int[64];
        int walk = 0;
        if (inner) {
            int first = at;
            dc[plane] += s();
            if (dc[plane] < 0 || dc[plane] > 255) {
                throw new Wrong(first);
            }
            walk = 1;
        }
        while (true) {
            int first = at;
            int u = u();
            if (u == 0) {
                break;
            }
            walk += u - 1;
            if (walk > 63) {
                throw new Wrong(first);
            }
            first = at;
            int level = s();
            if (level == 0 || Math.abs(level) > 2047) {
                throw new Wrong(first);
            }
            levels[ZIGZAG[walk]] = level;
            walk++;
            look[7]++;
        }
        look[6]++;
        int[][] h = sums(factors(levels, inner, dc[plane]));
        int side = plane == 0 ? 16 : 8;
        int left = n % across * side + (plane == 0 ? b % 2 * 8 : 0);
        int top = n / across * side + (plane == 0 ? b / 2 * 8 : 0);
        for (int y = 0; y < 8; y++) {
            for (int x = 0; x < 8; x++) {
                int dot = h[y][x] + (inner ? 0 : now.dots[plane][top + y][left + x]);
                now.dots[plane][top + y][left + x] = Math.max(0, Math.min(255, dot));
            }
        }
    }

    private int[] factors(int[] levels, boolean inner, int dcNow) {
        int[] f = new int[64];
        int sum = 0;
        for (int k = 0; k < 64; k++) {
            int l = levels[k];
            if (inner && k == 0) {
                f[k] = 8 * dcNow;
            } else if (inner) {
                int w = Math.min(38, 8 + 2 * (k % 8 + k / 8));
                f[k] = Integer.signum(l) * (Math.abs(l) * w * quant / 8);
            } else {
                f[k] = (l > 0 ? 2 * l + 1 : l < 0 ? 2 * l - 1 : 0) * quant;
            }
            f[k] = Math.max(-2048, Math.min(2047, f[k]));
            sum += f[k];
        }
        if (sum % 2 == 0) {
            f[63] += f[63] % 2 == 0 ? 1 : -1;
        }
        return f;
    }

    static int c(int k, int x) {
        int[][] half = {
            {2896, 2896, 2896, 2896}, {4017, 3406, 2276, 799}, {3784, 1567, -1567, -3784},
            {3406, -799, -4017, -2276}, {2896, -2896, -2896, 2896}, {2276, -4017, 799, 3406},
            {1567, -3784, 3784, -1567}, {799, -2276, 3406, -4017}};
        return x < 4 ? half[k][x] : k % 2 == 1 ? -half[k][7 - x] : half[k][7 - x];
    }

    /** H by its y, then its x. */
    static int[][] sums(int[] f) {
        long[][] g = new long[8][8];
        for (int v = 0; v < 8; v++) {
            for (int x = 0; x < 8; x++) {
                long sum = 1024;
                for (int u = 0; u < 8; u++) {
                    sum += (long) f[8 * v + u] * c(u, x);
                }
                g[v][x] = Math.floorDiv(sum, 2048);
            }
        }
        int[][] h = new int[8][8];
        for (int y = 0; y < 8; y++) {
            for (int x = 0; x < 8; x++) {
                long sum = 16384;
                for (int v = 0; v < 8; v++) {
                    sum += g[v][x] * c(v, y);
                }
                h[y][x] = (int) Math.floorDiv(sum, 32768);
            }
        }
        return h;
    }

    private void foretell(int n, Told told) {
        Still forwardOn = leant.get(leant.size() - (now.sort == 2 ? 1 : 2));
        Still backwardOn = leant.get(leant.size() - 1);
        for (int p = 0; p < 3; p++) {
            int side = p == 0 ? 16 : 8;
            for (int y = n / across * side; y < (n / across + 1) * side; y++) {
                for (int x = n % across * side; x < (n % across + 1) * side; x++) {
                    int f = told.forward ? dotAt(forwardOn.dots[p], p, x, y, told.ahead) : 0;
                    int b = told.backward ? dotAt(backwardOn.dots[p], p, x, y, told.back) : 0;
                    now.dots[p][y][x] = told.forward && told.backward ? (f + b + 1) >> 1
                            : told.forward ? f : b;
                }
            }
        }
    }

    private static int dotAt(int[][] plane, int p, int x, int y, int[] vector) {
        int a = p == 0 ? vector[0] : Integer.signum(vector[0]) * (Math.abs(vector[0]) / 2);
        int d = p == 0 ? vector[1] : Integer.signum(vector[1]) * (Math.abs(vector[1]) / 2);
        int px = Math.floorDiv(2 * x + a, 2);
        int py = Math.floorDiv(2 * y + d, 2);
        boolean wholeX = a % 2 == 0;
        boolean wholeY = d % 2 == 0;
        int dot = edge(plane, px, py);
        if (wholeX && wholeY) {
            return dot;
        }
        if (wholeY) {
            return (dot + edge(plane, px + 1, py) + 1) >> 1;
        }
        if (wholeX) {
            return (dot + edge(plane, px, py + 1) + 1) >> 1;
        }
        return (dot + edge(plane, px + 1, py) + edge(plane, px, py + 1)
                + edge(plane, px + 1, py + 1) + 2) >> 2;
    }

    private static int edge(int[][] plane, int x, int y) {
        int row = Math.max(0, Math.min(plane.length - 1, y));
        return plane[row][Math.max(0, Math.min(plane[row].length - 1, x))];
    }

    /** What sum() answers of a plane. */
    static int sum(int[][] dots) {
        int sum = 0;
        int number = 0;
        for (int[] row : dots) {
            for (int dot : row) {
                sum += dot * (1 + number);
                number++;
            }
        }
        return sum;
    }
}
