/** Promises 15 to 18: chain, gap, breaks, due. */
public final class ChainTest {
    private static final Expect expect = new Expect();
    private static final int NO = -1;

    private static CustodyRoom room() {
        CustodyRoom x = new CustodyRoom();
        x.hand(true);
        x.hand(true);
        x.hand(false);
        x.shelf(false);
        x.seals(0, 50);
        return x;
    }

    private static int[] chain(CustodyRoom x, int thing) {
        int length = 0;
        while (x.chain(thing, length) != NO) {
            length++;
        }
        int[] row = new int[length];
        for (int i = 0; i < length; i++) {
            row[i] = x.chain(thing, i);
        }
        return row;
    }

    private static void gapIs(CustodyRoom x, int thing, int i, int... want) {
        for (int what = 0; what < 4; what++) {
            int due = want.length == 0 ? NO : want[what];
            expect.same("gap(" + thing + ", " + i + ", " + what + ")", x.gap(thing, i, what), due);
        }
    }

    public static void main(String[] args) {
        kindsOfTheChain();
        chainOfParts();
        chainOfNothing();
        gaps();
        gapsOfParts();
        breaks();
        breaksInOrder();
        due();
        longLineOfParts();
        expect.end();
    }

    private static void kindsOfTheChain() {
        CustodyRoom x = room();
        int t = x.thing(1, 9);
        int bag = x.thing(1, 0);
        int s = x.thing(2, 0);
        int c = x.thing(3, 0);
        int u = x.thing(0, 0);
        expect.same("0 IN", x.slip(1, t, 0, 0, 0, 2, 0), 0);
        expect.same("1 IN of the bag", x.slip(1, bag, 0, 0, 1, 2, 0), 1);
        expect.same("2 CLOSE", x.slip(8, t, 0, 0, 0, 0, 0), 2);
        expect.same("3 UNSEAL", x.slip(9, t, 0, 0, 0, 0, 0), 3);
        expect.same("4 LOOK", x.slip(10, t, 0, 0, NO, 0, 0), 4);
        expect.same("5 PART", x.slip(11, t, 0, 0, s, 1, 0), 5);
        expect.same("6 COPY", x.slip(12, t, 0, 0, c, 0, 0), 6);
        expect.same("7 WEIGH", x.slip(13, t, 0, 0, 0, 1, 0), 7);
        expect.same("8 KEEP", x.slip(14, t, 0, 0, 0, 0, 0), 8);
        expect.same("9 DESTROY", x.slip(15, t, 0, 0, 0, 0, 0), 9);
        expect.same("10 TRIAL", x.slip(16, t, 0, 0, 0, 0, 0), 10);
        expect.same("11 OVER", x.slip(17, t, 0, 0, 0, 0, 0), 11);
        expect.same("12 OUT", x.slip(2, t, 0, 0, 2, 0, 0), 12);
        expect.same("13 HAND", x.slip(3, t, 0, 0, 2, 1, 0), 13);
        expect.same("14 BACK", x.slip(4, t, 0, 0, 0, 1, 0), 14);
        expect.same("15 PUT", x.slip(5, t, 0, 0, 2, 0, 0), 15);
        expect.same("16 INTO", x.slip(6, t, 0, 0, bag, 0, 0), 16);
        expect.same("17 PUT of the bag around it", x.slip(5, bag, 0, 0, 3, 0, 0), 17);
        expect.same("18 FROM", x.slip(7, t, 0, 0, 4, 0, 0), 18);
        expect.same("19 FOUND", x.slip(19, t, 0, 0, 5, NO, 0), 19);
        expect.same("20 IN of u", x.slip(1, u, 0, 0, 6, 2, 0), 20);
        expect.same("21 u INTO t", x.slip(6, u, 0, 0, t, 0, 0), 21);
        expect.same("22 u FROM t", x.slip(7, u, 0, 0, 6, 0, 0), 22);
        expect.same("23 BACK of s", x.slip(4, s, 0, 0, 7, 0, 0), 23);
        expect.same("24 BACK of c", x.slip(4, c, 0, 0, 8, 0, 0), 24);
        expect.same("25 DESTROYED", x.slip(18, t, 0, 1, 2, 0, 0), 25);
        expect.row("chain of t", chain(x, t), 0, 12, 13, 14, 15, 16, 18, 19, 25);
        expect.row("chain of the bag", chain(x, bag), 1, 17);
        expect.row("chain of u", chain(x, u), 20, 21, 22);
        expect.row("chain of s", chain(x, s), 0, 5, 23);
        expect.row("chain of c", chain(x, c), 0, 6, 24);
    }

    private static void chainOfParts() {
        CustodyRoom x = room();
        int t = x.thing(0, 9);
        int s = x.thing(2, 0);
        int s2 = x.thing(2, 0);
        x.pass(100);
        x.slip(1, t, 0, 0, 0, 2, 10);
        x.slip(11, t, 0, 0, s, 5, 30);
        x.slip(5, t, 0, 0, 1, 0, 40);
        x.slip(4, s, 0, 0, 2, 0, 50);
        x.slip(11, s, 0, 0, s2, 2, 60);
        x.slip(5, s, 0, 0, 3, 0, 70);
        x.slip(3, s2, 0, 0, 0, 1, 80);
        expect.same("a late PUT ahead of the PART", x.slip(5, t, 0, 0, 7, 0, 20), 7);
        expect.same("one of the PART's minute", x.slip(5, t, 0, 0, 8, 0, 30), 8);
        expect.row("chain of t", chain(x, t), 0, 7, 8, 2);
        expect.row("chain of s", chain(x, s), 0, 7, 1, 3, 5);
        expect.row("chain of s2", chain(x, s2), 0, 7, 1, 3, 4, 6);
        expect.same("chain(t, -1)", x.chain(t, -1), NO);
        expect.same("chain(-1, 0)", x.chain(-1, 0), NO);
        expect.same("chain(3, 0)", x.chain(3, 0), NO);
        expect.same("chain(t, far)", x.chain(t, Integer.MAX_VALUE), NO);
    }

    private static void chainOfNothing() {
        CustodyRoom x = room();
        int t = x.thing(0, 9);
        int s = x.thing(2, 0);
        expect.row("chain of a thing not IN", chain(x, t));
        expect.row("chain of a sample not taken", chain(x, s));
        x.slip(1, t, 0, 0, 0, 2, 0);
        // The LOOK's c is the sample's number, and brings it no CHAIN.
        int bag = x.thing(1, 9);
        x.slip(1, bag, 0, 0, 1, 2, 0);
        x.slip(10, bag, 0, 0, s, 0, 0);
        expect.row("chain of a sample not taken", chain(x, s));
    }

    private static void gaps() {
        CustodyRoom x = room();
        int t = x.thing(0, 9);
        x.pass(100);
        x.slip(1, t, 0, 0, 0, 2, 10);
        x.slip(13, t, 0, 0, 0, 1, 15);
        gapIs(x, t, 0);
        x.slip(19, t, 0, 0, 5, NO, 20);
        x.slip(19, t, 0, 0, NO, 1, 90);
        x.slip(4, t, 0, 0, 7, 1, 95);
        gapIs(x, t, 0, 10, 20, 0, 2);
        gapIs(x, t, 1, 20, 90, 2, 3);
        gapIs(x, t, 2);
        gapIs(x, t, -1);
        expect.same("a late PUT", x.slip(5, t, 0, 0, 6, 0, 60), 5);
        gapIs(x, t, 1, 60, 90, 5, 3);
        expect.same("what 4", x.gap(t, 0, 4), NO);
        expect.same("what -1", x.gap(t, 0, -1), NO);
        expect.same("thing 1", x.gap(1, 0, 0), NO);
        expect.same("thing -1", x.gap(-1, 0, 0), NO);
    }

    private static void gapsOfParts() {
        CustodyRoom x = room();
        int t = x.thing(0, 9);
        int s = x.thing(2, 0);
        x.pass(100);
        x.slip(1, t, 0, 0, 0, 2, 10);
        x.slip(19, t, 0, 0, 5, NO, 20);
        x.slip(11, t, 0, 0, s, 5, 30);
        x.slip(19, t, 0, 0, 6, NO, 40);
        x.slip(19, s, 0, 0, 7, NO, 50);
        gapIs(x, s, 0, 10, 20, 0, 1);
        gapIs(x, s, 1, 30, 50, 2, 4);
        gapIs(x, s, 2);
        gapIs(x, t, 1, 20, 40, 1, 3);
    }

    private static void breaks() {
        CustodyRoom x = room();
        int bag = x.thing(1, 0);
        int other = x.thing(4, 0);
        int t = x.thing(0, 0);
        x.shelf(true);
        x.slip(1, bag, 0, 0, 0, 2, 0);
        x.slip(1, other, 0, 0, 12, 2, 0);
        x.slip(10, bag, 0, 0, NO, 0, 0);
        expect.same("OPEN, seen OPEN", x.breaks(bag), NO);
        x.slip(8, bag, 0, 0, 3, 0, 0);
        x.slip(10, bag, 0, 0, 3, 0, 0);
        x.slip(9, bag, 0, 0, 3, 0, 0);
        x.slip(10, bag, 0, 0, NO, 0, 0);
        expect.same("all as sealed", x.breaks(bag), NO);
        expect.same("LOOK at the other", x.slip(10, other, 0, 0, 3, 0, 0), 7);
        expect.same("OPEN, seal 3 seen", x.breaks(other), 7);
        x.slip(8, bag, 0, 0, 4, 0, 0);
        expect.same("UNSEAL by what isn't its seal", x.slip(9, bag, 0, 0, 3, 0, 0), 9);
        expect.same("break of UNSEAL", x.breaks(bag), 9);
        expect.same("of a thing", x.breaks(t), NO);
        expect.same("of -1", x.breaks(-1), NO);
        expect.same("of 3", x.breaks(3), NO);
    }

    private static void breaksInOrder() {
        CustodyRoom x = room();
        int bag = x.thing(1, 0);
        x.slip(1, bag, 0, 0, 0, 2, 0);
        x.pass(100);
        x.slip(8, bag, 0, 0, 3, 0, 50);
        expect.same("sealed, seen OPEN", x.slip(10, bag, 0, 0, NO, 0, 60), 2);
        expect.same("the break", x.breaks(bag), 2);
        expect.same("LOOK ahead of the CLOSE", x.slip(10, bag, 0, 0, 3, 0, 40), 3);
        expect.same("the first break in ORDER", x.breaks(bag), 3);
        expect.same("CLOSE ahead of it", x.slip(8, bag, 0, 0, 9, 0, 30), NO);
        expect.same("blamed", x.fault(1), 1);
    }

    private static void due() {
        CustodyRoom x = room();
        for (int i = 0; i < 5; i++) {
            x.thing(0, 0);
        }
        for (int i = 0; i < 4; i++) {
            x.slip(1, i, 0, 0, i, 2, 0);
        }
        expect.same("due(-1, 0)", x.due(-1, 0), NO);
        expect.same("due(0, 0)", x.due(0, 0), NO);
        x.slip(2, 3, 0, 0, 2, 7, 0);
        x.slip(14, 1, 0, 0, 7, 0, 0);
        x.slip(2, 0, 0, 0, 2, 7, 0);
        x.slip(14, 0, 0, 0, 7, 0, 0);
        x.slip(2, 2, 0, 0, 2, 8, 0);
        int[] want = {0, 1, 3, NO, NO};
        for (int i = 0; i < want.length; i++) {
            expect.same("due(7, " + i + ")", x.due(7, i), want[i]);
        }
        expect.same("due(8, 0)", x.due(8, 0), 2);
        expect.same("where ahead of all", x.where(2, -1, 0, 0), 0);
        expect.same("due(8, 0) behind it", x.due(8, 0), 2);
        expect.same("due(7, -1)", x.due(7, -1), NO);
        expect.same("due(min, 0)", x.due(Integer.MIN_VALUE, 0), NO);
        x.slip(4, 3, 0, 0, 3, 2, 0);
        expect.same("back, not due", x.due(7, 2), NO);
        x.slip(14, 1, 0, 0, 0, 0, 0);
        expect.same("kept until another day", x.due(7, 1), NO);
        x.slip(15, 1, 0, 0, 0, 0, 0);
        expect.same("due(0, 0)", x.due(0, 0), 1);
        x.slip(18, 1, 0, 1, 2, 0, 0);
        expect.same("gone, due no more", x.due(0, 0), NO);
    }

    private static void longLineOfParts() {
        CustodyRoom x = room();
        int t = x.thing(0, 1000);
        x.slip(1, t, 0, 0, 0, 2, 0);
        x.slip(15, t, 0, 0, 0, 0, 0);
        for (int i = 1; i < 60; i++) {
            x.thing(2, 0);
            expect.same("PART " + i, x.slip(11, i - 1, 0, 0, i, 1000 - i, 0), i + 1);
        }
        expect.same("the last one's CHAIN", x.chain(59, 59), 60);
        expect.same("and not more", x.chain(59, 60), NO);
        for (int i = 1; i < 59; i++) {
            int place = 1 + i % 11;
            x.shelf(false);
            x.slip(4, i, 0, 0, 12 * (i / 11) + place, 0, 0);
        }
        expect.same("one is in a hand, far off", x.slip(18, t, 0, 1, 2, 0, 0), NO);
        x.slip(4, 59, 0, 0, 95, 0, 0);
        expect.yes("none is", x.slip(18, t, 0, 1, 2, 0, 0) != NO);
    }
}
