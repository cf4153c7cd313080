/** Every call of a room that has all it can have, with ordinary and with extreme arguments: none throws. */
public final class FullRoomTest {
    private static final Expect expect = new Expect();
    private static final int NO = -1;
    private static final int[] EXTREMES = {Integer.MIN_VALUE, Integer.MIN_VALUE + 1, -2, -1, 0, 1, 7, 8, 11, 12, 19,
        20, 50, 51, 59, 60, 95, 96, 399, 400, 549, 550, 599, 600, 999, 1000, Integer.MAX_VALUE - 1, Integer.MAX_VALUE};

    public static void main(String[] args) {
        answersWhenFull();
        extremes();
        expect.end();
    }

    private static CustodyRoom full() {
        CustodyRoom x = new CustodyRoom();
        for (int i = 0; i < 20; i++) {
            x.hand(true);
        }
        for (int i = 0; i < 8; i++) {
            x.shelf(true);
        }
        for (int row = 0; row < 6; row++) {
            x.seals(row, 50);
        }
        for (int i = 0; i < 60; i++) {
            x.thing(i < 40 ? 1 : i == 59 ? 5 : i < 50 ? 2 : 3, 0);
        }
        x.pass(1000);
        for (int i = 0; i < 40; i++) {
            x.slip(1, i, 0, 1, i, 0, i);
        }
        x.slip(1, 59, 0, 1, 95, 0, 40);
        for (int i = 50; i < 59; i++) {
            x.slip(12, 59, 18, 19, i, 0, 41);
        }
        x.slip(8, 59, 18, 19, 549, 0, 42);
        x.slip(14, 59, 0, 0, 3, 0, 43);
        while (x.about(3) < 400) {
            x.slip(10, 59, 0, 0, 549, 0, 44);
        }
        for (int i = 0; i < 60; i++) {
            x.handing(59, 18, 19, 0);
        }
        x.freeze();
        return x;
    }

    private static void answersWhenFull() {
        CustodyRoom x = full();
        int[] sizes = {20, 8, 60, 400, 1000, 60, 400};
        for (int what = 0; what < sizes.length; what++) {
            expect.same("about(" + what + ")", x.about(what), sizes[what]);
        }
        expect.same("breaks", x.breaks(59), NO);
        expect.same("due", x.due(3, 0), 59);
        expect.same("due", x.due(3, 1), NO);
        expect.no("seals below the last", x.seals(5, 49));
        expect.same("chain of a copy", x.chain(58, 1), 49);
        expect.same("late", x.slipOf(399, 8), 0);
        expect.same("check", x.check(), NO);
        expect.yes("alter the last to be ahead of all", x.alter(399, 6, 0));
        expect.same("check", x.check(), 399);
        expect.yes("alter it to be the last again", x.alter(399, 6, 1000));
        expect.yes("thaw", x.thaw());
        expect.same("how many", x.about(3), 400);
        expect.same("one more", x.slip(10, 59, 0, 0, 549, 0, 44), NO);
        expect.same("fault", x.fault(0), 1);
        expect.same("yes", x.yes(59, 18, 30), 0);
        expect.same("yes", x.yes(59, 19, 30), 3);
        x.alter(398, 0, 15);
        x.alter(399, 0, 18);
        x.alter(399, 2, 18);
        x.alter(399, 3, 19);
        x.alter(399, 4, 17);
        expect.same("copies are in hands, and it is kept until day 3", x.check(), 399);
    }

    private static void extremes() {
        CustodyRoom full = full();
        CustodyRoom bare = new CustodyRoom();
        for (int v : EXTREMES) {
            for (int w : EXTREMES) {
                ask(full, v, w);
                ask(bare, v, w);
            }
        }
        expect.same("the full room has its slips", full.about(3), 400);
        expect.same("the bare room has none", bare.about(3), 0);
        // With slips left to write: every kind with every pair of extremes as c and d.
        CustodyRoom fresh = room();
        for (int kind = 1; kind <= 19; kind++) {
            for (int v : EXTREMES) {
                for (int w : EXTREMES) {
                    fresh.slip(kind, v, w, w, v, w, 0);
                    fresh.slip(kind, 0, 0, 1, v, w, 0);
                    fresh.slip(kind, 1, v, w, v, w, 0);
                    if (fresh.about(3) > 300) {
                        fresh = room();
                    }
                }
            }
        }
        expect.yes("slips were taken", fresh.about(3) > 0);
    }

    private static CustodyRoom room() {
        CustodyRoom x = new CustodyRoom();
        x.hand(true);
        x.hand(true);
        x.shelf(true);
        x.seals(0, 50);
        x.thing(1, 9);
        x.thing(0, 9);
        x.thing(2, 0);
        x.thing(3, 0);
        x.slip(1, 0, 0, 1, 0, 0, 0);
        x.slip(1, 1, 0, 1, 1, 0, 0);
        return x;
    }

    private static void ask(CustodyRoom x, int v, int w) {
        x.fault(v);
        x.about(v);
        x.slipOf(v, w);
        x.where(v, w, w, w);
        x.where(v, 1000, 1000, w);
        x.chain(v, w);
        x.gap(v, w, w);
        x.breaks(v);
        x.due(v, w);
        x.handing(v, w, v, w);
        x.no(v, w);
        x.yes(v, w, 50);
        x.thing(v == 0 ? -1 : v > 5 ? v : 6, w);
        x.seals(v, w < -1 ? w : 51);
        x.pass(v < 0 ? v : -1);
        x.slip(v, w, v, w, v, w, v);
        x.alter(v, w, v);
        x.check();
        x.thaw();
        x.freeze();
    }
}
