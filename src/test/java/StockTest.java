/** Promises 1 to 6 and 12: a new object, hand, shelf, seals, thing, pass, about. */
public final class StockTest {
    private static final Expect expect = new Expect();

    public static void main(String[] args) {
        newObject();
        hands();
        shelves();
        seals();
        sealsInUse();
        things();
        pass();
        expect.end();
    }

    private static void newObject() {
        CustodyRoom x = new CustodyRoom();
        for (int what = 0; what <= 5; what++) {
            expect.same("about(" + what + ")", x.about(what), 0);
        }
        expect.same("about(6)", x.about(6), -1);
        expect.same("about(7)", x.about(7), -1);
        expect.same("about(-1)", x.about(-1), -1);
        expect.same("fault(0)", x.fault(0), -1);
        expect.same("fault(1)", x.fault(1), -1);
        expect.same("check", x.check(), -2);
        expect.no("thaw", x.thaw());
        expect.no("alter", x.alter(0, 0, 1));
        expect.same("slipOf(0, 0)", x.slipOf(0, 0), -1);
        expect.same("where(0, ..)", x.where(0, 0, 0, 0), -1);
        expect.same("chain(0, 0)", x.chain(0, 0), -1);
        expect.same("gap(0, 0, 0)", x.gap(0, 0, 0), -1);
        expect.same("breaks(0)", x.breaks(0), -1);
        expect.same("due(0, 0)", x.due(0, 0), -1);
        // All rows of seals are MISSING: even number 0 of each can't be put on.
        x.hand(true);
        x.shelf(false);
        int bag = x.thing(1, 0);
        x.slip(1, bag, 0, -1, 0, 0, 0);
        for (int row = 0; row < 6; row++) {
            expect.same("slip 8 of row " + row, x.slip(8, bag, 0, 0, 100 * row, 0, 0), -1);
        }
    }

    private static void hands() {
        CustodyRoom x = new CustodyRoom();
        for (int i = 0; i < 20; i++) {
            expect.same("hand", x.hand(i % 2 == 0), i);
        }
        expect.same("hand 21", x.hand(true), -1);
        expect.same("about(0)", x.about(0), 20);
        x.shelf(false);
        for (int i = 0; i < 20; i++) {
            int t = x.thing(0, 1);
            boolean taken = i < 12 && i % 2 == 0;
            expect.same("IN by hand " + i, x.slip(1, t, i, -1, i % 12, 1, 0) != -1 ? 1 : 0, taken ? 1 : 0);
        }
        expect.same("IN by hand 20", x.slip(1, 1, 20, -1, 1, 1, 0), -1);
        expect.same("IN from hand 20", x.slip(1, 1, 0, -1, 1, 20, 0), -1);
    }

    private static void shelves() {
        CustodyRoom x = new CustodyRoom();
        x.hand(true);
        for (int i = 0; i < 8; i++) {
            expect.same("shelf", x.shelf(i == 7), i);
        }
        expect.same("shelf 9", x.shelf(true), -1);
        expect.same("about(1)", x.about(1), 8);
        int t = x.thing(0, 0);
        int coldBag = x.thing(4, 0);
        expect.same("IN to 96", x.slip(1, t, 0, -1, 96, 0, 0), -1);
        expect.same("IN to -1", x.slip(1, t, 0, -1, -1, 0, 0), -1);
        expect.same("IN to 95", x.slip(1, t, 0, -1, 95, 0, 0), 0);
        expect.same("cold bag to 83", x.slip(1, coldBag, 0, -1, 83, 0, 0), -1);
        expect.same("cold bag to 84", x.slip(1, coldBag, 0, -1, 84, 0, 0), 1);
        expect.same("cold bag to 96", x.slip(5, coldBag, 0, -1, 96, 0, 0), -1);
        CustodyRoom y = new CustodyRoom();
        y.hand(true);
        y.shelf(true);
        expect.same("cold bag to 0 of a cold shelf", y.slip(1, y.thing(4, 0), 0, -1, 0, 0, 0), 0);
    }

    private static void seals() {
        CustodyRoom x = new CustodyRoom();
        expect.yes("seals(0, 0)", x.seals(0, 0));
        expect.yes("seals(5, 50)", x.seals(5, 50));
        expect.yes("seals(5, -1)", x.seals(5, -1));
        expect.no("seals(-1, 1)", x.seals(-1, 1));
        expect.no("seals(6, 1)", x.seals(6, 1));
        expect.no("seals(1, 51)", x.seals(1, 51));
        expect.no("seals(1, -2)", x.seals(1, -2));
        expect.no("seals of extremes", x.seals(Integer.MIN_VALUE, Integer.MAX_VALUE));
    }

    private static void sealsInUse() {
        CustodyRoom x = new CustodyRoom();
        x.hand(true);
        x.shelf(false);
        int bag = x.thing(1, 0);
        int other = x.thing(1, 0);
        x.slip(1, bag, 0, -1, 0, 0, 0);
        x.slip(1, other, 0, -1, 1, 0, 0);
        expect.yes("seals(2, 0)", x.seals(2, 0));
        expect.same("seal 200 of none", x.slip(8, bag, 0, 0, 200, 0, 0), -1);
        expect.yes("seals(2, 5)", x.seals(2, 5));
        expect.same("seal 205 of 5", x.slip(8, bag, 0, 0, 205, 0, 0), -1);
        expect.same("seal 204 of 5", x.slip(8, bag, 0, 0, 204, 0, 0), 2);
        expect.no("seals(2, 4)", x.seals(2, 4));
        expect.no("seals(2, -1)", x.seals(2, -1));
        expect.yes("seals(2, 5) again", x.seals(2, 5));
        expect.yes("seals(2, 6)", x.seals(2, 6));
        expect.yes("seals(1, 1), another row", x.seals(1, 1));
        // What was refused has changed nothing: 205 is given out still.
        expect.no("seals(2, 0)", x.seals(2, 0));
        expect.same("seal 205 of 6", x.slip(8, other, 0, 0, 205, 0, 0), 3);
        // A LOOK that tells a seal of a row doesn't put it on.
        expect.same("look", x.slip(10, other, 0, 0, 100, 0, 0), 4);
        expect.yes("seals(1, -1)", x.seals(1, -1));
        // An opened seal was put on all the same.
        expect.same("unseal", x.slip(9, other, 0, 0, 205, 0, 0), 5);
        expect.no("seals(2, 5)", x.seals(2, 5));
    }

    private static void things() {
        CustodyRoom x = new CustodyRoom();
        expect.same("kind -1", x.thing(-1, 0), -1);
        expect.same("kind 6", x.thing(6, 0), -1);
        expect.same("weight -1", x.thing(0, -1), -1);
        expect.same("weight 1000001", x.thing(0, 1000001), -1);
        expect.same("a sample of 1", x.thing(2, 1), -1);
        expect.same("a copy of 1", x.thing(3, 1), -1);
        expect.same("about(2)", x.about(2), 0);
        for (int i = 0; i < 60; i++) {
            int kind = i % 6;
            int weight = kind == 2 || kind == 3 ? 0 : 1000000 - i;
            expect.same("thing", x.thing(kind, weight), i);
            expect.same("its weight", x.where(i, 0, 0, 2), weight);
        }
        expect.same("thing 61", x.thing(0, 0), -1);
        expect.same("about(2)", x.about(2), 60);
        expect.same("breaks(60)", x.breaks(60), -1);
        expect.same("chain(60, 0)", x.chain(60, 0), -1);
        expect.same("gap(60, 0, 0)", x.gap(60, 0, 0), -1);
        expect.same("where(60, ..)", x.where(60, 0, 0, 0), -1);
        x.hand(true);
        x.shelf(false);
        expect.same("IN of thing 60", x.slip(1, 60, 0, -1, 0, 0, 0), -1);
        expect.same("fault", x.fault(0), 3);
        expect.same("IN", x.slip(1, 0, 0, -1, 0, 0, 0), 0);
        expect.same("INTO thing 60", x.slip(6, 0, 0, -1, 60, 0, 0), -1);
        expect.same("PART to thing 60", x.slip(11, 0, 0, -1, 60, 1, 0), -1);
        CustodyRoom y = new CustodyRoom();
        expect.same("weight 1000000", y.thing(5, 1000000), 0);
    }

    private static void pass() {
        CustodyRoom x = new CustodyRoom();
        expect.same("pass(0)", x.pass(0), 0);
        expect.same("pass(-1)", x.pass(-1), -1);
        expect.same("pass(100001)", x.pass(100001), -1);
        expect.same("pass(7)", x.pass(7), 7);
        expect.same("about(4)", x.about(4), 7);
        // 1001 calls are past an object's 512, but no sooner can NOW come to its bound.
        CustodyRoom y = new CustodyRoom();
        for (int i = 1; i <= 1000; i++) {
            y.pass(100000);
        }
        expect.same("NOW at its bound", y.about(4), 100000000);
        expect.same("pass(1) at the bound", y.pass(1), -1);
        expect.same("pass(0) at the bound", y.pass(0), 100000000);
    }
}
