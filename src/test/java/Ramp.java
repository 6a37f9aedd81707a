/**
 * A picture of flat blocks that rise to the right and downward, so that every vector shows by
 * the dots where it lets one block pass into the next.
 */
final class Ramp {
    private final int across;
    private final int down;
    private final int first;
    private final int right;
    private final int below;

    Ramp(int across, int down, int first, int right, int below) {
        this.across = across;
        this.down = down;
        this.first = first;
        this.right = right;
        this.below = below;
    }

    /** 20 brighter with each block to the right, 3 with each one downward. */
    static Ramp rising(int across, int down) {
        return new Ramp(across, down, 41, 20, 3);
    }

    /** No dot of it is that of rising() at the same place, and their sums are often odd. */
    static Ramp falling(int across, int down) {
        return new Ramp(across, down, 230, -15, -8);
    }

    /** A stream's begin with two to lean on: first rising(), then falling(). */
    static BitText both(int across, int down) {
        BitText text = rising(across, down).write(new BitText().head(across, down), BitText.I);
        return falling(across, down).write(text, BitText.P);
    }

    /** The whole picture, all of its squares INNER. */
    BitText write(BitText text, int sort) {
        text.picture(sort, 8, 1);
        int[] dc = new int[3];
        for (int row = 0; row < down; row++) {
            dc[0] = dc[1] = dc[2] = 128;
            for (int column = 0; column < across; column++) {
                text.raw(sort == BitText.I ? "0" : "1 1 0");
                for (int b = 0; b < 6; b++) {
                    int plane = Math.max(0, b - 3);
                    int value = plane == 0 ? block(0, 2 * column + b % 2, 2 * row + b / 2) : block(plane, column, row);
                    text.s(value - dc[plane]).u(0);
                    dc[plane] = value;
                }
            }
        }
        return text.align();
    }

    private int block(int plane, int column, int row) {
        return first + 9 * plane + right * column + below * row;
    }

    /** The dot, or the nearest one at the edge. */
    int dot(int plane, int x, int y) {
        int side = plane == 0 ? 16 : 8;
        int insideX = Math.max(0, Math.min(side * across - 1, x));
        int insideY = Math.max(0, Math.min(side * down - 1, y));
        return block(plane, insideX / 8, insideY / 8);
    }

    /** What a vector (a, d) of a square foretells of the dot x, y. */
    int moved(int plane, int x, int y, int a, int d) {
        int toRight = plane == 0 ? a : halved(a);
        int toBelow = plane == 0 ? d : halved(d);
        int left = Math.floorDiv(2 * x + toRight, 2);
        int above = Math.floorDiv(2 * y + toBelow, 2);
        int p = dot(plane, left, above);
        int q = dot(plane, left + 1, above);
        int r = dot(plane, left, above + 1);
        int s = dot(plane, left + 1, above + 1);
        if (toRight % 2 == 0) {
            return toBelow % 2 == 0 ? p : Math.floorDiv(p + r + 1, 2);
        }
        return toBelow % 2 == 0 ? Math.floorDiv(p + q + 1, 2) : Math.floorDiv(p + q + r + s + 2, 4);
    }

    private static int halved(int part) {
        return part < 0 ? -(-part / 2) : part / 2;
    }

    /** The square of shown picture k must be this one, moved by (a, d). */
    void isMoved(Checks checks, String what, ReelReader reader, int k, int[] square, int a, int d) {
        for (int plane = 0; plane < 3; plane++) {
            int side = plane == 0 ? 16 : 8;
            int left = side * square[0];
            int top = side * square[1];
            for (int i = 0; i < side; i++) {
                isDot(checks, what, reader, k, plane, left + i, top + 5, a, d);
                isDot(checks, what, reader, k, plane, left + 2, top + i, a, d);
            }
        }
    }

    private void isDot(Checks checks, String what, ReelReader reader, int k, int plane, int x, int y, int a, int d) {
        checks.due(what + " (" + a + ", " + d + "): dot(" + k + ", " + plane + ", " + x + ", " + y + ")",
                reader.dot(k, plane, x, y), moved(plane, x, y, a, d));
    }
}
