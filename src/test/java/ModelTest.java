/** Promises 5 to 10: streams by chance, whole, slipped, flipped and cut, against the plain model. */
public final class ModelTest {
    private static final Checks checks = new Checks("model");
    /** No object is asked more often. */
    private static final int MOST_CALLS = 512;
    private static final int DOTS = 50;
    /** Those behind the tape's: read(), wrong(), look(), and shown() and sum() of 20 and one more. */
    private static final int CALLS = 2 + 8 + 21 * (4 + 3) + DOTS;

    private static ReelReader reader = new ReelReader();
    private static int calls;
    private static int whole;
    private static int wrong;
    private static int usedAgain;

    public static void main(String[] args) {
        int limit = args.length > 0 ? Integer.parseInt(args[0]) : 3000;
        for (int seed = 0; seed < limit && checks.failures() == 0; seed++) {
            Chance chance = new Chance(seed);
            String bits = spoiled(stream(chance), chance);
            takeReader(bits);
            compare("stream " + seed + ": ", bits, chance);
        }
        checks.due("enough whole streams", whole > limit / 10, true);
        checks.due("enough wrong streams", wrong > limit / 10, true);
        checks.due("enough objects that have read other streams", usedAgain > limit / 10, true);
        checks.finish();
    }

    /** The one that has read another stream, of another size, if it has calls enough left. */
    private static void takeReader(String bits) {
        int needed = bits.length() / 160 + 5 + CALLS;
        if (calls + needed > MOST_CALLS) {
            reader = new ReelReader();
            calls = 0;
        } else {
            usedAgain++;
        }
        calls += needed;
    }

    private static String stream(Chance chance) {
        if (chance.oneIn(20)) {
            StringBuilder noise = new StringBuilder(new BitText().head(2, 2).picture(1, 5, 0).toString());
            for (int i = chance.below(400); i > 0; i--) {
                noise.append(chance.oneIn(2) ? '1' : '0');
            }
            return noise.toString();
        }
        int slip = chance.oneIn(2) ? 0 : chance.from(100, 2000);
        int pictures = chance.oneIn(8) ? chance.from(15, 40) : chance.from(0, 8);
        String bits = new RandomStream(chance, slip).write(pictures).toString();
        return bits.length() > 32000 ? bits.substring(0, 32000) : bits;
    }

    private static String spoiled(String bits, Chance chance) {
        if (chance.oneIn(4)) {
            return bits.substring(0, chance.below(bits.length() + 1));
        }
        if (chance.oneIn(4)) {
            StringBuilder flipped = new StringBuilder(bits);
            for (int i = chance.from(1, 2); i > 0; i--) {
                int at = chance.below(bits.length());
                flipped.setCharAt(at, flipped.charAt(at) == '0' ? '1' : '0');
            }
            return flipped.toString();
        }
        return bits;
    }

    private static void compare(String run, String bits, Chance chance) {
        PlainModel model = new PlainModel(bits);
        if (model.wrong == -1) {
            whole++;
        } else {
            wrong++;
        }
        BitText.give(reader, bits);
        checks.due(run + "read()", reader.read(), model.shown.size());
        checks.due(run + "wrong()", reader.wrong(), model.wrong);
        checks.looks(run, reader, model.look);
        int kept = Math.min(20, model.shown.size());
        for (int k = 0; k <= kept; k++) {
            comparePicture(run, k, k < kept ? model.shown.get(k) : null);
        }
        for (int i = 0; i < DOTS && kept > 0; i++) {
            int k = chance.below(kept);
            compareDot(run, k, model.shown.get(k), chance);
        }
    }

    private static void comparePicture(String run, int k, PlainModel.Still still) {
        int none = Checks.THROWS;
        checks.due(run + "SORT of " + k, Checks.shown(reader, k, 0), still == null ? none : still.sort);
        checks.due(run + "number of " + k, Checks.shown(reader, k, 1), still == null ? none : still.number);
        checks.due(run + "INNER of " + k, Checks.shown(reader, k, 2), still == null ? none : still.inner);
        checks.due(run + "passed over of " + k, Checks.shown(reader, k, 3), still == null ? none : still.passed);
        for (int plane = 0; plane < 3; plane++) {
            checks.due(run + "sum(" + k + ", " + plane + ")", reader.sum(k, plane),
                    still == null ? ReelReader.NONE : PlainModel.sum(still.dots[plane]));
        }
    }

    /** One of the plane's dots, or one that is just outside of it. */
    private static void compareDot(String run, int k, PlainModel.Still still, Chance chance) {
        int plane = chance.below(3);
        int[][] dots = still.dots[plane];
        int y = chance.from(-1, dots.length);
        int x = chance.from(-1, dots[0].length);
        boolean outside = y < 0 || y == dots.length || x < 0 || x == dots[0].length;
        checks.due(run + "dot(" + k + ", " + plane + ", " + x + ", " + y + ")",
                reader.dot(k, plane, x, y), outside ? ReelReader.NONE : dots[y][x]);
    }
}
