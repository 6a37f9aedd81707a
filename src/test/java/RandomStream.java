/** Makes streams by chance that keep to the document, but for a slip at every so many codes. */
final class RandomStream {
    private final Chance chance;
    private final int slip;
    private final BitText text = new BitText();
    private final int[] dc = new int[3];
    private int range;
    private int levels;

    /** slip: how rarely a code is wrong; 0: never. */
    RandomStream(Chance chance, int slip) {
        this.chance = chance;
        this.slip = slip;
    }

    private boolean slips() {
        return slip > 0 && chance.oneIn(slip);
    }

    BitText write(int pictures) {
        int across = chance.from(1, 4);
        int down = chance.from(1, 4);
        levels = chance.oneIn(3) ? 0 : chance.from(1, 4);
        text.head(across, down);
        int leanable = 0;
        for (int i = 0; i < pictures && text.length() < 28000; i++) {
            int sort = leanable == 0 ? 1 : leanable == 1 ? chance.from(1, 2) : chance.from(1, 3);
            if (sort == 1 && chance.oneIn(2)) {
                sort = Math.min(3, leanable + 1);
            }
            if (slips()) {
                sort = chance.below(4);
            }
            leanable += sort == 3 ? 0 : 1;
            picture(sort, across, down);
        }
        return text.end();
    }

    private void picture(int sort, int across, int down) {
        int span = slips() ? 0 : chance.from(1, 7);
        range = 16 << span;
        text.picture(sort, slips() ? 0 : chance.oneIn(2) ? chance.from(1, 31) : chance.from(1, 4), span);
        int count = across * down;
        boolean mayPass = false;
        for (int at = 0; at < count; at++) {
            if (sort != 1) {
                int over = over(sort, at, count, across, mayPass);
                text.u(over);
                at += over;
                if (over > 0) {
                    resetDcs();
                }
            }
            if (at < count) {
                if (at % across == 0) {
                    resetDcs();
                }
                mayPass = square(sort);
            }
        }
        if (slips()) {
            text.raw("1");
        }
        text.align();
    }

    private int over(int sort, int at, int count, int across, boolean mayPass) {
        int left = sort == 2 ? count - at : at % across == 0 || !mayPass ? 0 : across - at % across;
        if (slips()) {
            return chance.below(left + 3);
        }
        return chance.oneIn(2) ? 0 : chance.from(0, left);
    }

    private void resetDcs() {
        dc[0] = dc[1] = dc[2] = 128;
    }

    /** Tells whether one of B may be passed over behind it. */
    private boolean square(int sort) {
        boolean inner = sort == 1;
        if (sort != 1) {
            inner = chance.oneIn(4);
            text.raw(inner ? "1" : "0");
        }
        boolean coded = inner;
        int ways = 0;
        if (!inner) {
            ways = sort == 2 ? chance.below(2) : slips() ? 0 : chance.from(1, 3);
            text.number(ways, sort == 2 ? 1 : 2);
            coded = chance.oneIn(2);
            text.raw(coded ? "1" : "0");
        }
        if (coded) {
            boolean quant = chance.oneIn(5);
            text.raw(quant ? "1" : "0");
            if (quant) {
                text.number(slips() ? 0 : chance.from(1, 31), 5);
            }
        }
        for (int i = 0; i < Integer.bitCount(ways); i++) {
            step();
            step();
        }
        int which = inner ? 63 : 0;
        if (coded && !inner) {
            which = chance.below(64);
            text.number(which, 6);
        }
        for (int b = 0; b < 6; b++) {
            if ((which & 32 >> b) != 0) {
                block(b < 4 ? 0 : b - 3, inner);
            }
        }
        if (!inner) {
            resetDcs();
        }
        return !inner;
    }

    private void step() {
        int half = range / 2;
        if (slips()) {
            text.s(chance.oneIn(2) ? half : -half - 1);
        } else if (chance.oneIn(2)) {
            text.s(chance.from(-7, 7));
        } else {
            text.s(chance.from(-half, half - 1));
        }
    }

    private void block(int plane, boolean inner) {
        int place = 0;
        if (inner) {
            int step = chance.oneIn(3) ? chance.from(0, 255) - dc[plane] : chance.oneIn(2) ? 0
                    : Math.max(0, Math.min(255, dc[plane] + chance.from(-20, 20))) - dc[plane];
            if (slips()) {
                step = chance.oneIn(2) ? -dc[plane] - 1 : 256 - dc[plane];
            }
            dc[plane] += step;
            text.s(step);
            place = 1;
        }
        int count = chance.oneIn(3) ? 0 : chance.below(levels + 1);
        if (chance.oneIn(100)) {
            count = 64;
        }
        for (int i = 0; i < count && place < 64; i++) {
            int far = count == 64 ? 1 : chance.from(1, Math.min(64 - place, 20));
            text.u(slips() ? 65 - place : far);
            place += far;
            text.s(level());
        }
        text.u(slips() ? 65 - place : 0);
    }

    private int level() {
        if (slips()) {
            int[] none = {0, 2048, -2048, 100000};
            return none[chance.below(4)];
        }
        int most = chance.oneIn(3) ? 2047 : chance.oneIn(2) ? 60 : 5;
        int level = chance.from(1, most);
        return chance.oneIn(2) ? level : -level;
    }
}
