/** Promises 7 to 10: look, shown, dot and sum, at their edges too. */
public final class AnswersTest {
    private static final Checks checks = new Checks("answers");

    public static void main(String[] args) {
        looks();
        looksWhereSomethingIsWrong();
        sizes();
        shownEdges();
        dotEdges();
        sums();
        checks.finish();
    }

    private static void looksAre(String name, ReelReader reader, int... wanted) {
        for (int what = 0; what < 8; what++) {
            checks.due(name + ": look(" + what + ")", Checks.look(reader, what), wanted[what]);
        }
    }

    private static void looks() {
        BitText text = BitText.flatI(3, 1).picture(BitText.P, 1, 1)
                .u(1).raw("0 0 1 0 010010").u(1).s(3).u(4).s(-1).u(0).u(0)
                .u(0).raw("1").flat(0, 0, 0, 0, 0, 0);
        ReelReader reader = BitText.readerOf(text.end());
        reader.read();
        looksAre("whole", reader, 48, 16, 2, 2, 5, 1, 18 + 2 + 6, 2);
        int[] none = {-1, 8, 9, Integer.MIN_VALUE, Integer.MAX_VALUE};
        for (int what : none) {
            checks.due("look(" + what + ")", Checks.look(reader, what), Checks.THROWS);
        }
    }

    private static void looksWhereSomethingIsWrong() {
        BitText head = BitText.flatI(3, 1).picture(BitText.P, 1, 1).u(1).raw("0 0 1 0 110000").u(1).s(3).u(0);
        String digits = head.toString();
        ReelReader reader = BitText.readerOf(head.u(1).s(1).u(2).s(0).align());
        reader.read();
        looksAre("a LEVEL of 0", reader, 48, 16, 1, 1, 3, 1, 19, 2);
        reader = BitText.readerOf(new BitText().raw(digits).u(0).u(2).end());
        reader.read();
        looksAre("beyond the last one", reader, 48, 16, 1, 1, 4, 1, 20, 1);
        // The first one of the run could be passed over, and yet none of them is.
        reader = BitText.readerOf(BitText.flatI(2, 2).picture(BitText.P, 1, 1).u(4).align()
                .picture(BitText.B, 1, 1).u(0).raw("0 01 0 1 1").u(2).end());
        reader.read();
        looksAre("B beyond its row", reader, 32, 32, 2, 2, 5, 4, 24, 0);
        reader = BitText.readerOf(new BitText().head(1, 1).picture(BitText.I, 1, 0).raw("0 1 1 1 1 1 1 1 1 1 1 1"));
        reader.read();
        // The tape's last bits are an S and no U: zeros up to the byte's end.
        looksAre("an end within a block", reader, 16, 16, 0, 0, 0, 0, 5, 0);
    }

    private static void sizes() {
        for (int across = 1; across <= 4; across++) {
            for (int down = 1; down <= 4; down++) {
                ReelReader reader = BitText.readerOf(new BitText().head(across, down).end());
                reader.read();
                looksAre("size", reader, 16 * across, 16 * down, 0, 0, 0, 0, 0, 0);
                reader = BitText.readerOf(BitText.flatI(across, down).end());
                reader.read();
                int count = across * down;
                looksAre("size", reader, 16 * across, 16 * down, 1, 1, count, 0, 6 * count, 0);
            }
        }
        ReelReader reader = BitText.readerOf(new BitText().number(21074, 16));
        reader.read();
        looksAre("no size", reader, 0, 0, 0, 0, 0, 0, 0, 0);
        reader = BitText.readerOf(new BitText().number(21074, 16).raw("1101 1000"));
        reader.read();
        looksAre("a size, and a wrong ALIGN", reader, 64, 32, 0, 0, 0, 0, 0, 0);
    }

    private static void shownEdges() {
        ReelReader reader = BitText.readerOf(BitText.flatI(2, 1).picture(BitText.P, 1, 1).u(1).raw("1")
                .flat(1, 0, 0, 0, 0, 0).end());
        reader.read();
        int[][] wanted = {{1, 0, 2, 0}, {2, 1, 1, 1}};
        for (int k = 0; k < 2; k++) {
            for (int what = 0; what < 4; what++) {
                checks.due("shown(" + k + ", " + what + ")", Checks.shown(reader, k, what), wanted[k][what]);
            }
        }
        int[][] none = {{2, 0}, {-1, 0}, {0, -1}, {0, 4}, {19, 0}, {20, 0}, {1, Integer.MAX_VALUE},
            {Integer.MIN_VALUE, 0}, {Integer.MAX_VALUE, 0}, {0, Integer.MIN_VALUE}};
        for (int[] call : none) {
            checks.due("shown(" + call[0] + ", " + call[1] + ")",
                    Checks.shown(reader, call[0], call[1]), Checks.THROWS);
        }
    }

    private static void dotEdges() {
        ReelReader reader = BitText.readerOf(BitText.flatI(3, 2).end());
        reader.read();
        int[][] good = {{0, 0, 0, 0}, {0, 0, 47, 31}, {0, 1, 23, 15}, {0, 2, 23, 15}, {0, 2, 0, 0}};
        for (int[] call : good) {
            checks.due("a dot", reader.dot(call[0], call[1], call[2], call[3]), 128);
        }
        int low = Integer.MIN_VALUE;
        int high = Integer.MAX_VALUE;
        int[][] none = {{1, 0, 0, 0}, {-1, 0, 0, 0}, {0, 3, 0, 0}, {0, -1, 0, 0}, {0, 0, 48, 0}, {0, 0, 0, 32},
            {0, 0, -1, 0}, {0, 0, 0, -1}, {0, 1, 24, 0}, {0, 1, 0, 16}, {0, 2, 24, 0}, {0, 2, 0, 16},
            {low, 0, 0, 0}, {high, 0, 0, 0}, {0, low, 0, 0}, {0, high, 0, 0},
            {0, 0, low, 0}, {0, 0, high, 0}, {0, 0, 0, low}, {0, 0, 0, high}};
        for (int[] call : none) {
            checks.due("no dot", reader.dot(call[0], call[1], call[2], call[3]), ReelReader.NONE);
        }
    }

    private static void sums() {
        BitText text = new BitText().head(1, 1).picture(BitText.I, 8, 0).flat(-118, 10, 10, 10, -128, 127);
        ReelReader reader = BitText.readerOf(text.end());
        reader.read();
        long first = 0;
        for (int i = 0; i < 256; i++) {
            int dot = 10 + (i % 16 < 8 ? 0 : 10) + (i < 128 ? 0 : 20);
            first += (long) dot * (i + 1);
        }
        checks.due("sum(0, 0)", reader.sum(0, 0), first);
        checks.due("sum(0, 1)", reader.sum(0, 1), 0);
        checks.due("sum(0, 2)", reader.sum(0, 2), 255 * 2080);
        int[][] none = {{1, 0}, {-1, 0}, {0, 3}, {0, -1}, {20, 0}, {Integer.MIN_VALUE, 0},
            {Integer.MAX_VALUE, 0}, {0, Integer.MIN_VALUE}, {0, Integer.MAX_VALUE}};
        for (int[] call : none) {
            checks.due("no sum", reader.sum(call[0], call[1]), ReelReader.NONE);
        }
    }
}
