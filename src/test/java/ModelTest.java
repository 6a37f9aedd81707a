/** Promises 5 to 10: streams by chance, whole, slipped, flipped and cut, against the plain model. */
public final class ModelTest {
    private static final Checks checks = new Checks("model");
    private static int whole;
    private static int wrong;

    public static void main(String[] args) {
        int limit = args.length > 0 ? Integer.parseInt(args[0]) : 1500;
        ReelReader used = new ReelReader();
        for (int seed = 0; seed < limit && checks.failures() == 0; seed++) {
            Chance chance = new Chance(seed);
            // Mostly an object that has read other streams, of other sizes, already.
            if (chance.oneIn(3)) {
                used = new ReelReader();
            }
            String bits = spoiled(stream(chance), chance);
            compare(seed, used, bits);
        }
        checks.due("enough whole streams", whole > limit / 10, true);
        checks.due("enough wrong streams", wrong > limit / 10, true);
        checks.finish();
    }

    private static String stream(Chance chance) {
        if (chance.oneIn(20)) {
            StringBuilder noise = new StringBuilder(new BitText().head(2, 2).picture(1, 5, 0).toString());
            for (int i = chance.below(400); i > 0; i--) {
                noise.append(chance.oneIn(2) ? '1' : '0');
            }
            return noise.toString();
        }
        int slip = chance.oneIn(2) ? 0 : chance.from(100, 2000);
        int pictures = chance.oneIn(8) ? chance.from(15, 40) : chance.from(0, 8);
        String bits = new RandomStream(chance, slip).make(pictures);
        return bits.length() > 32000 ? bits.substring(0, 32000) : bits;
    }

    private static String spoiled(String bits, Chance chance) {
        if (chance.oneIn(4)) {
            return bits.substring(0, chance.below(bits.length() + 1));
        }
        if (chance.oneIn(4)) {
            StringBuilder flipped = new StringBuilder(bits);
            for (int i = chance.from(1, 2); i > 0; i--) {
                int at = chance.below(bits.length());
                flipped.setCharAt(at, flipped.charAt(at) == '0' ? '1' : '0');
            }
            return flipped.toString();
        }
        return bits;
    }

    private static void compare(int seed, ReelReader reader, String bits) {
        PlainModel model = new PlainModel(bits);
        if (model.wrong == -1) {
            whole++;
        } else {
            wrong++;
        }
        String run = "stream " + seed + ": ";
        BitText.give(reader, bits);
        checks.due(run + "read()", reader.read(), model.shown.size());
        checks.due(run + "wrong()", reader.wrong(), model.wrong);
        for (int what = 0; what < 8; what++) {
            checks.due(run + "look(" + what + ")", Checks.look(reader, what), model.look[what]);
        }
        for (int k = 0; k < 25; k++) {
            boolean kept = k < 20 && k < model.shown.size();
            PlainModel.Still still = kept ? model.shown.get(k) : null;
            int none = Checks.THROWS;
            checks.due(run + "sort " + k, Checks.shown(reader, k, 0), kept ? still.sort : none);
            checks.due(run + "number " + k, Checks.shown(reader, k, 1), kept ? still.number : none);
            checks.due(run + "inner " + k, Checks.shown(reader, k, 2), kept ? still.inner : none);
            checks.due(run + "passed " + k, Checks.shown(reader, k, 3), kept ? still.passed : none);
            for (int plane = 0; plane < 3; plane++) {
                comparePlane(run, reader, k, plane, kept ? still.dots[plane] : null);
            }
        }
    }

    private static void comparePlane(String run, ReelReader reader, int k, int plane, int[][] dots) {
        if (dots == null) {
            checks.due(run + "no dot", reader.dot(k, plane, 0, 0), ReelReader.NONE);
            checks.due(run + "no sum", reader.sum(k, plane), ReelReader.NONE);
            return;
        }
        long sum = 0;
        int width = dots[0].length;
        for (int y = 0; y < dots.length; y++) {
            for (int x = 0; x < width; x++) {
                checks.due(run + "dot(" + k + ", " + plane + ", " + x + ", " + y + ")",
                        reader.dot(k, plane, x, y), dots[y][x]);
                sum += (long) dots[y][x] * (1 + y * width + x);
            }
        }
        checks.due(run + "sum(" + k + ", " + plane + ")", reader.sum(k, plane), (int) sum);
        checks.due(run + "dot right of it", reader.dot(k, plane, width, 0), ReelReader.NONE);
        checks.due(run + "dot below it", reader.dot(k, plane, 0, dots.length), ReelReader.NONE);
    }
}
