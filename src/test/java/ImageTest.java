/** Promises 12, 14, 19 to 22: freeze, alter, check, thaw, and where behind an altered IMAGE. */
public final class ImageTest {
    private static final Expect expect = new Expect();
    private static final int NO = -1;

    /** Thing 0 IN at 0, PUT to 1 at 10, PUT to 2 at 20; NOW is 30. */
    private static CustodyRoom room() {
        CustodyRoom x = new CustodyRoom();
        x.hand(true);
        x.hand(true);
        x.hand(false);
        x.shelf(false);
        x.seals(0, 5);
        x.thing(0, 50);
        x.thing(1, 5);
        x.slip(1, 0, 0, NO, 0, 2, 0);
        x.pass(10);
        x.slip(5, 0, 0, NO, 1, 0, 10);
        x.pass(10);
        x.slip(5, 0, 0, NO, 2, 0, 20);
        x.pass(10);
        return x;
    }

    public static void main(String[] args) {
        frozen();
        emptyImage();
        alter();
        checkEach();
        checkInItsOrder();
        thawBack();
        thawAltered();
        thawInItsOrder();
        whatStays();
        leftOut();
        sealsOfTheImage();
        expect.end();
    }

    private static void frozen() {
        CustodyRoom x = room();
        expect.same("about(6)", x.about(6), NO);
        expect.same("freeze", x.freeze(), 3);
        expect.same("about(6)", x.about(6), 3);
        expect.same("check", x.check(), NO);
        x.slip(13, 0, 0, 0, 0, 1, 30);
        expect.same("about(6) stays", x.about(6), 3);
        expect.same("about(3)", x.about(3), 4);
        expect.same("freeze again", x.freeze(), 4);
        expect.same("about(6)", x.about(6), 4);
        expect.yes("alter of the new one", x.alter(3, 5, 2));
        expect.same("the slips are not altered", x.slipOf(3, 5), 1);
        expect.yes("thaw", x.thaw());
        expect.same("now they are", x.slipOf(3, 5), 2);
    }

    private static void emptyImage() {
        CustodyRoom x = new CustodyRoom();
        expect.same("freeze", x.freeze(), 0);
        expect.same("about(6)", x.about(6), 0);
        expect.same("check", x.check(), NO);
        expect.no("alter", x.alter(0, 0, 0));
        x.hand(true);
        x.shelf(false);
        x.thing(0, 0);
        x.slip(1, 0, 0, NO, 0, 0, 0);
        expect.yes("thaw", x.thaw());
        expect.same("about(3)", x.about(3), 0);
        expect.same("where", x.where(0, 0, 0, 0), 0);
        expect.same("IN once more", x.slip(1, 0, 0, NO, 3, 0, 0), 0);
    }

    private static void alter() {
        CustodyRoom x = room();
        expect.no("without IMAGE", x.alter(0, 0, 1));
        x.freeze();
        expect.no("slip 3", x.alter(3, 0, 1));
        expect.no("slip -1", x.alter(-1, 0, 1));
        expect.no("what 7", x.alter(0, 7, 1));
        expect.no("what -1", x.alter(0, -1, 1));
        expect.same("nothing is altered", x.check(), NO);
        int[] values = {5, 0, 1, 77, 9, 88, 8};
        for (int what = 0; what <= 6; what++) {
            expect.yes("what " + what, x.alter(1, what, values[what]));
        }
        expect.same("check", x.check(), NO);
        expect.yes("thaw", x.thaw());
        for (int what = 0; what <= 6; what++) {
            expect.same("the slip, " + what, x.slipOf(1, what), values[what]);
        }
    }

    private static void checkEach() {
        int[][] wrong = {{0, 0}, {0, 20}, {0, -1}, {1, 2}, {1, -1}, {2, 2}, {2, 20}, {4, 12}, {6, -1}, {6, 11},
            {0, Integer.MIN_VALUE}, {0, Integer.MAX_VALUE}, {1, Integer.MIN_VALUE}, {1, Integer.MAX_VALUE},
            {4, Integer.MIN_VALUE}, {4, Integer.MAX_VALUE}, {6, Integer.MIN_VALUE}, {6, Integer.MAX_VALUE}};
        for (int[] row : wrong) {
            CustodyRoom x = room();
            x.freeze();
            expect.yes("alter", x.alter(1, row[0], row[1]));
            expect.same("check of " + row[0] + " = " + row[1], x.check(), 1);
            expect.no("thaw", x.thaw());
            expect.same("the slips stay", x.slipOf(1, 4), 1);
            expect.same("about(3)", x.about(3), 3);
            expect.same("where", x.where(0, 30, 30, 1), 2);
        }
        CustodyRoom y = room();
        y.freeze();
        y.alter(1, 6, 9);
        expect.same("a minute below the one written is fine", y.check(), NO);
        y.alter(1, 4, 2);
        expect.same("the next can't be", y.check(), 2);
        y.alter(0, 2, 2);
        expect.same("the first can't be", y.check(), 0);
        y.freeze();
        expect.same("a new IMAGE", y.check(), NO);
    }

    private static void checkInItsOrder() {
        CustodyRoom x = room();
        x.freeze();
        x.alter(2, 6, 5);
        expect.same("2 ahead of 1", x.check(), NO);
        x.alter(2, 6, 0);
        expect.same("2 behind 0 in one minute", x.check(), NO);
        x.alter(1, 6, 0);
        x.alter(1, 4, 0);
        expect.same("1 ahead of 2 again, and wrong", x.check(), 1);
        x.alter(1, 4, 2);
        expect.same("1 ahead of 2, which is wrong now", x.check(), 2);
        x.alter(2, 6, 20);
        x.alter(1, 6, -4);
        expect.same("1 ahead of all", x.check(), 1);
        x.alter(1, 6, Integer.MIN_VALUE);
        expect.same("1 ahead of all", x.check(), 1);
        x.alter(1, 6, Integer.MAX_VALUE);
        x.alter(2, 0, 99);
        expect.same("2 ahead of 1", x.check(), 2);
    }

    private static void thawBack() {
        CustodyRoom x = room();
        x.freeze();
        x.slip(13, 0, 0, 0, 0, 7, 5);
        x.slip(2, 0, 0, NO, 2, 4, 30);
        expect.yes("thaw", x.thaw());
        expect.same("about(3)", x.about(3), 3);
        expect.same("weight", x.where(0, 30, 30, 2), 50);
        expect.same("how", x.where(0, 30, 30, 0), 1);
        expect.same("slipOf(3, 0)", x.slipOf(3, 0), NO);
        expect.same("written then", x.slipOf(1, 7), 10);
        expect.same("chain", x.chain(0, 3), NO);
        expect.same("the IMAGE stays", x.about(6), 3);
        expect.same("the next number", x.slip(13, 0, 0, 0, 0, 7, 5), 3);
        expect.yes("thaw once more", x.thaw());
        expect.same("about(3)", x.about(3), 3);
    }

    private static void thawAltered() {
        CustodyRoom x = room();
        x.freeze();
        x.alter(2, 6, 5);
        x.alter(2, 4, 7);
        expect.same("not yet", x.where(0, 5, 30, 1), 0);
        expect.yes("thaw", x.thaw());
        expect.same("where at 5", x.where(0, 5, 30, 1), 7);
        expect.same("where at 10", x.where(0, 10, 30, 1), 1);
        expect.same("chain 1", x.chain(0, 1), 2);
        expect.same("chain 2", x.chain(0, 2), 1);
        expect.same("late", x.slipOf(2, 8), 1);
        expect.same("written", x.slipOf(2, 7), 20);
        expect.same("PUT to 7 at 7", x.slip(5, 0, 0, NO, 7, 0, 7), NO);
        expect.same("PUT to 7 at 12", x.slip(5, 0, 0, NO, 7, 0, 12), 3);
    }

    private static void thawInItsOrder() {
        CustodyRoom x = room();
        x.freeze();
        x.alter(2, 6, 5);
        expect.yes("thaw", x.thaw());
        expect.same("the last in ORDER is slip 1", x.where(0, 30, 30, 1), 1);
        expect.same("chain", x.chain(0, 2), 1);
        x.alter(2, 6, 20);
        expect.yes("thaw", x.thaw());
        expect.same("the last in ORDER is slip 2", x.where(0, 30, 30, 1), 2);
    }

    private static void whatStays() {
        CustodyRoom x = room();
        x.freeze();
        x.slip(2, 0, 0, NO, 2, 4, 30);
        x.handing(0, 2, 1, 30);
        x.yes(0, 2, 30);
        x.hand(true);
        x.shelf(true);
        x.thing(0, 3);
        x.seals(1, 9);
        x.pass(5);
        x.slip(99, 0, 0, 0, 0, 0, 0);
        expect.yes("thaw", x.thaw());
        expect.same("hands", x.about(0), 4);
        expect.same("shelves", x.about(1), 2);
        expect.same("things", x.about(2), 3);
        expect.same("NOW", x.about(4), 35);
        expect.same("HANDINGS", x.about(5), 1);
        expect.same("fault", x.fault(0), 2);
        expect.same("the yes stays; the thing is at a place", x.yes(0, 1, 31), 3);
        expect.same("OUT", x.slip(2, 0, 0, NO, 2, 4, 29), 3);
        expect.same("now it is written", x.yes(0, 1, 31), 1);
        expect.same("IN of the bag", x.slip(1, 1, 0, NO, 5, 2, 35), 5);
        expect.same("CLOSE by the new row", x.slip(8, 1, 0, 0, 108, 0, 35), 6);
    }

    private static void leftOut() {
        CustodyRoom y = new CustodyRoom();
        y.hand(true);
        y.shelf(false);
        y.thing(0, 50);
        y.thing(0, 50);
        y.pass(5);
        y.slip(1, 0, 0, NO, 0, 0, 1);
        y.slip(13, 0, 0, 0, 0, 5, 4);
        y.pass(5);
        y.slip(1, 1, 0, NO, 1, 0, 10);
        y.pass(5);
        y.slip(13, 1, 0, 0, 0, 1, 15);
        y.freeze();
        // Thing 1 is told to be IN at 2 (written at 10), and weighed at 4 by a slip written at 5.
        y.alter(2, 6, 2);
        y.alter(1, 1, 1);
        expect.yes("thaw", y.thaw());
        expect.same("known at 10: weighed", y.where(1, 4, 10, 2), 45);
        expect.same("known at 5: that can't be DONE, and is left out", y.where(1, 4, 5, 2), 50);
        expect.same("known at 5: nowhere yet", y.where(1, 4, 5, 0), 0);
        expect.same("known at 5: the other is IN", y.where(0, 4, 5, 0), 1);
        expect.same("known at 15: all", y.where(1, 15, 15, 2), 44);
    }

    private static void sealsOfTheImage() {
        CustodyRoom x = room();
        x.slip(1, 1, 0, NO, 5, 2, 30);
        x.slip(8, 1, 0, 0, 4, 0, 30);
        x.freeze();
        x.alter(4, 4, 3);
        expect.yes("thaw", x.thaw());
        expect.yes("the seal 4 is used no more", x.seals(0, 4));
        expect.no("the seal 3 is", x.seals(0, 3));
        x.alter(4, 4, 4);
        expect.same("4 isn't given out any more", x.check(), 4);
        expect.no("thaw", x.thaw());
        expect.yes("given out again", x.seals(0, 5));
        expect.same("check", x.check(), NO);
    }
}
