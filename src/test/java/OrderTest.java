/** Promises 7, 8, 13, 14: late slips, which slip is blamed, slipOf, where as it was known. */
public final class OrderTest {
    private static final Expect expect = new Expect();
    private static final int NO = -1;

    private static CustodyRoom room() {
        CustodyRoom x = new CustodyRoom();
        x.hand(true);
        x.hand(true);
        x.hand(false);
        x.shelf(false);
        x.seals(0, 50);
        return x;
    }

    public static void main(String[] args) {
        lateSlips();
        blamed();
        sameMinute();
        sealPutOnEarlier();
        slipOf();
        whereAsKnown();
        whereForOthers();
        whereAheadOfEach();
        keptUntilByDayOfSlip();
        expect.end();
    }

    private static void lateSlips() {
        CustodyRoom x = room();
        int t = x.thing(0, 10);
        x.pass(100);
        expect.same("IN at 50", x.slip(1, t, 0, NO, 0, 2, 50), 0);
        expect.same("OUT at 70", x.slip(2, t, 0, NO, 2, 3, 70), 1);
        expect.same("PUT at 60", x.slip(5, t, 0, NO, 5, 0, 60), 2);
        expect.same("PUT at 49", x.slip(5, t, 0, NO, 6, 0, 49), NO);
        expect.same("blamed", x.fault(1), 3);
        expect.same("PUT at 71", x.slip(5, t, 0, NO, 6, 0, 71), NO);
        expect.same("where at 49", x.where(t, 49, 100, 0), 0);
        expect.same("where at 59", x.where(t, 59, 100, 1), 0);
        expect.same("where at 60", x.where(t, 60, 100, 1), 5);
        expect.same("where at 69", x.where(t, 69, 100, 1), 5);
        expect.same("where at 70", x.where(t, 70, 100, 0), 2);
    }

    private static void blamed() {
        CustodyRoom x = room();
        int t = x.thing(0, 10);
        int u = x.thing(0, 10);
        x.pass(100);
        x.slip(1, t, 0, NO, 0, 2, 10);
        x.slip(1, u, 0, NO, 1, 2, 50);
        x.slip(13, t, 0, 0, 0, 8, 60);
        x.slip(5, t, 0, NO, 2, 0, 70);
        expect.same("PUT of t to 1 at 20", x.slip(5, t, 0, NO, 1, 0, 20), NO);
        expect.same("u's IN can't be DONE", x.fault(1), 1);
        expect.same("WEIGH of 3 at 20", x.slip(13, t, 0, 0, 0, 3, 20), NO);
        expect.same("the WEIGH can't be DONE", x.fault(1), 2);
        expect.same("PUT of t to 2 at 65", x.slip(5, t, 0, NO, 2, 0, 65), NO);
        expect.same("the PUT can't be DONE", x.fault(1), 3);
        expect.same("OUT at 5, before IN", x.slip(2, t, 0, NO, 2, 0, 5), NO);
        expect.same("it can't be DONE itself", x.fault(1), 4);
        expect.same("nothing was written", x.about(3), 4);
        expect.same("no trace in the ORDER", x.chain(t, 1), 3);
        expect.same("PUT at 30", x.slip(5, t, 0, NO, 3, 0, 30), 4);
        expect.same("its place in the ORDER", x.chain(t, 1), 4);
        expect.same("what follows", x.chain(t, 2), 3);
    }

    private static void sameMinute() {
        CustodyRoom x = room();
        int t = x.thing(0, 10);
        expect.same("PUT, then IN of one minute", x.slip(5, t, 0, NO, 3, 0, 0), NO);
        expect.same("IN", x.slip(1, t, 0, NO, 0, 2, 0), 0);
        expect.same("PUT", x.slip(5, t, 0, NO, 3, 0, 0), 1);
        x.pass(1);
        expect.same("PUT at 1", x.slip(5, t, 0, NO, 4, 0, 1), 2);
        expect.same("PUT at 0, written at 1", x.slip(5, t, 0, NO, 5, 0, 0), 3);
        expect.same("late", x.slipOf(3, 8), 1);
        expect.same("chain", x.chain(t, 2), 3);
        expect.same("chain", x.chain(t, 3), 2);
    }

    private static void sealPutOnEarlier() {
        CustodyRoom x = room();
        int bag = x.thing(1, 0);
        int other = x.thing(1, 0);
        x.slip(1, bag, 0, NO, 0, 2, 0);
        x.slip(1, other, 0, NO, 1, 2, 0);
        x.pass(10);
        expect.same("CLOSE at 10", x.slip(8, bag, 0, 0, 7, 0, 10), 2);
        expect.same("CLOSE of another at 5 by it", x.slip(8, other, 0, 0, 7, 0, 5), NO);
        expect.same("the later one is blamed", x.fault(1), 2);
    }

    private static void slipOf() {
        CustodyRoom x = room();
        int t = x.thing(0, 10);
        x.pass(9);
        x.slip(1, t, 0, 77, 4, 2, 5);
        x.pass(3);
        x.slip(13, t, -3, Integer.MIN_VALUE, Integer.MAX_VALUE, 2, 12);
        x.slip(13, t, 0, 0, 0, 0, 11);
        x.slip(13, t, 0, 0, 0, 0, 12);
        int[] first = {1, t, 0, 77, 4, 2, 5, 9, 0};
        int[] second = {13, t, -3, Integer.MIN_VALUE, Integer.MAX_VALUE, 2, 12, 12, 0};
        for (int what = 0; what <= 8; what++) {
            expect.same("slipOf(0, " + what + ")", x.slipOf(0, what), first[what]);
            expect.same("slipOf(1, " + what + ")", x.slipOf(1, what), second[what]);
            expect.same("slipOf(-1, " + what + ")", x.slipOf(-1, what), NO);
            expect.same("slipOf(4, " + what + ")", x.slipOf(4, what), NO);
        }
        expect.same("slipOf(2, 8)", x.slipOf(2, 8), 1);
        expect.same("slipOf(3, 8): an equal minute isn't later", x.slipOf(3, 8), 0);
        expect.same("slipOf(0, 9)", x.slipOf(0, 9), NO);
        expect.same("slipOf(0, -1)", x.slipOf(0, -1), NO);
        expect.same("slipOf of extremes", x.slipOf(Integer.MAX_VALUE, Integer.MIN_VALUE), NO);
    }

    private static void whereAsKnown() {
        CustodyRoom x = room();
        int t = x.thing(0, 10);
        x.slip(1, t, 0, NO, 0, 2, 0);
        x.pass(10);
        x.slip(5, t, 0, NO, 1, 0, 10);
        x.pass(10);
        x.slip(5, t, 0, NO, 2, 0, 5);
        x.slip(13, t, 0, 0, 0, 4, 20);
        expect.same("at 5 as known at 5", x.where(t, 5, 5, 1), 0);
        expect.same("at 5 as known at 19", x.where(t, 5, 19, 1), 0);
        expect.same("at 5 as known at 20", x.where(t, 5, 20, 1), 2);
        expect.same("at 10 as known at 10", x.where(t, 10, 10, 1), 1);
        expect.same("at 10 as known at 9", x.where(t, 10, 9, 1), 0);
        expect.same("at 10 as known at 20", x.where(t, 10, 20, 1), 1);
        expect.same("weight at 19", x.where(t, 19, 20, 2), 10);
        expect.same("weight at 20", x.where(t, 20, 20, 2), 6);
        expect.same("far ahead", x.where(t, Integer.MAX_VALUE, Integer.MAX_VALUE, 2), 6);
        expect.same("below 0", x.where(t, -1, 20, 0), 0);
        expect.same("known below 0", x.where(t, 20, -1, 0), 0);
    }

    private static void whereForOthers() {
        CustodyRoom x = room();
        int bag = x.thing(1, 10);
        expect.same("thing 1", x.where(1, 0, 0, 0), NO);
        expect.same("thing -1", x.where(-1, 0, 0, 0), NO);
        expect.same("what -1", x.where(bag, 0, 0, -1), NO);
        expect.same("what 12", x.where(bag, 0, 0, 12), NO);
        int[] nowhere = {0, NO, 10, NO, 0, NO, NO, NO, 0, 0, 0, NO};
        for (int what = 0; what < 12; what++) {
            expect.same("nowhere yet, " + what, x.where(bag, 0, 0, what), nowhere[what]);
        }
    }

    private static void whereAheadOfEach() {
        CustodyRoom x = room();
        int t = x.thing(1, 10);
        int s = x.thing(2, 0);
        int u = x.thing(0, 0);
        x.pass(100);
        x.slip(1, t, 0, NO, 3, 2, 10);
        x.slip(1, u, 0, NO, 4, 2, 10);
        x.slip(11, t, 0, NO, s, 4, 20);
        x.slip(6, u, 0, NO, t, 0, 20);
        x.slip(8, t, 0, 0, 7, 0, 20);
        x.slip(14, t, 0, 0, 9, 0, 20);
        x.slip(15, t, 0, 0, 0, 0, 20);
        x.slip(16, t, 0, 0, 5, 0, 20);
        x.slip(2, t, 0, NO, 2, 8, 20);
        int[] behind = {2, 2, 6, 7, 2, 2, 8, 9, 1, 1, 1, NO};
        int[] ahead = {1, 3, 10, NO, 1, 3, NO, NO, 0, 0, 0, NO};
        for (int what = 0; what < 12; what++) {
            expect.same("behind all, " + what, x.where(t, 20, 100, what), behind[what]);
            expect.same("ahead of them, " + what, x.where(t, 19, 100, what), ahead[what]);
        }
        expect.same("the sample, of what", x.where(s, 20, 100, 11), t);
        expect.same("the sample ahead, of what", x.where(s, 19, 100, 11), NO);
        expect.same("the sample ahead, how", x.where(s, 19, 100, 0), 0);
        expect.same("the sample ahead, weight", x.where(s, 19, 100, 2), 0);
    }

    private static void keptUntilByDayOfSlip() {
        CustodyRoom x = room();
        int t = x.thing(0, 10);
        x.slip(1, t, 0, NO, 0, 2, 0);
        x.slip(15, t, 0, 0, 0, 0, 0);
        x.slip(14, t, 0, 0, 2, 0, 0);
        x.pass(5000);
        expect.same("DESTROYED on day 1", x.slip(18, t, 0, 1, 2, 0, 2879), NO);
        expect.same("DESTROYED on day 2", x.slip(18, t, 0, 1, 2, 0, 2880), 3);
        expect.same("a KEEP ahead of it", x.slip(14, t, 0, 0, 3, 0, 100), NO);
        expect.same("blamed", x.fault(1), 3);
        expect.same("a KEEP behind it", x.slip(14, t, 0, 0, 3, 0, 4000), NO);
        expect.same("blamed", x.fault(1), 4);
        expect.same("a KEEP ahead of a KEEP", x.slip(14, t, 0, 0, 1, 0, 0), 4);
        expect.same("the latter KEEP counts", x.where(t, 0, 5000, 7), 1);
    }
}
