/** Promises 8 to 11: handing, yes, no, and the fault of a yes. */
public final class HandingTest {
    private static final Expect expect = new Expect();
    private static final int NO = -1;

    /** Thing 0 is in hand 2 from minute 0 on; NOW is 200. */
    private static CustodyRoom room() {
        CustodyRoom x = new CustodyRoom();
        x.hand(true);
        x.hand(false);
        x.hand(false);
        x.shelf(false);
        x.thing(0, 5);
        x.thing(0, 5);
        x.slip(1, 0, 0, NO, 0, 2, 0);
        x.slip(2, 0, 0, NO, 2, 3, 0);
        x.pass(200);
        return x;
    }

    public static void main(String[] args) {
        begun();
        inTime();
        late();
        notTaken();
        full();
        ended();
        faultOfYes();
        expect.end();
    }

    private static void begun() {
        CustodyRoom x = room();
        expect.same("no such thing", x.handing(2, 2, 1, 0), NO);
        expect.same("thing -1", x.handing(-1, 2, 1, 0), NO);
        expect.same("no such giver", x.handing(0, 3, 1, 0), NO);
        expect.same("giver -1", x.handing(0, -1, 1, 0), NO);
        expect.same("no such taker", x.handing(0, 2, 3, 0), NO);
        expect.same("taker -1", x.handing(0, 2, -1, 0), NO);
        expect.same("one twice", x.handing(0, 1, 1, 0), NO);
        expect.same("minute -1", x.handing(0, 2, 1, -1), NO);
        expect.same("minute 201", x.handing(0, 2, 1, 201), NO);
        expect.same("none begun", x.about(5), 0);
        for (int i = 0; i < 60; i++) {
            // A thing that isn't KEPT can be told too: the slip will say.
            expect.same("handing " + i, x.handing(i % 2, 2, 1, i % 2 == 0 ? 0 : 200), i);
        }
        expect.same("handing 60", x.handing(0, 2, 1, 0), NO);
        expect.same("about(5)", x.about(5), 60);
        expect.same("no slips by that", x.about(3), 2);
        expect.same("yes to the last", x.yes(59, 1, 200), 0);
        expect.same("yes to 60", x.yes(60, 1, 200), NO);
    }

    private static void inTime() {
        CustodyRoom x = room();
        x.handing(0, 2, 1, 100);
        expect.same("yes to 1", x.yes(1, 2, 100), NO);
        expect.same("yes to -1", x.yes(-1, 2, 100), NO);
        expect.same("yes of another hand", x.yes(0, 0, 100), NO);
        expect.same("yes of no hand", x.yes(0, -1, 100), NO);
        expect.same("yes below its minute", x.yes(0, 2, 99), NO);
        expect.same("yes above NOW", x.yes(0, 2, 201), NO);
        expect.same("yes of the taker", x.yes(0, 1, 130), 0);
        expect.same("yes again", x.yes(0, 1, 131), NO);
        expect.same("no slip yet", x.about(3), 2);
        expect.same("yes of the giver", x.yes(0, 2, 100), 1);
        int[] slip = {3, 0, NO, NO, 2, 1, 100, 200, 0};
        for (int what = 0; what < slip.length; what++) {
            expect.same("the slip, " + what, x.slipOf(2, what), slip[what]);
        }
        expect.same("in the taker's hand", x.where(0, 100, 200, 1), 1);
        expect.same("ended", x.yes(0, 2, 100), NO);
    }

    private static void late() {
        CustodyRoom x = room();
        x.handing(0, 2, 1, 100);
        expect.same("yes, 31 behind", x.yes(0, 1, 131), 0);
        expect.same("yes at once", x.yes(0, 2, 100), 2);
        expect.same("of the later yes", x.slipOf(2, 6), 131);
        expect.same("not at 130", x.where(0, 130, 200, 1), 2);
        expect.same("at 131", x.where(0, 131, 200, 1), 1);
        x.handing(0, 1, 2, 140);
        expect.same("yes", x.yes(1, 1, 140), 0);
        expect.same("yes, late itself", x.yes(1, 2, 200), 2);
        expect.same("of that minute", x.slipOf(3, 6), 200);
    }

    private static void notTaken() {
        CustodyRoom x = room();
        x.handing(0, 1, 2, 100);
        expect.same("yes of who has it not", x.yes(0, 1, 120), 0);
        expect.same("it isn't TAKEN", x.yes(0, 2, 110), 3);
        expect.same("fault", x.fault(0), 5);
        expect.same("blamed", x.fault(1), 2);
        expect.same("not written", x.about(3), 2);
        expect.same("the former yes stays said", x.yes(0, 1, 120), NO);
        expect.same("a HAND by slip", x.slip(3, 0, 0, 0, 2, 1, 50), 2);
        expect.same("the latter again", x.yes(0, 2, 131), 2);
        expect.same("its slip", x.slipOf(3, 6), 131);
    }

    private static void full() {
        CustodyRoom x = room();
        x.handing(0, 2, 1, 100);
        x.yes(0, 2, 100);
        while (x.about(3) < 400) {
            x.slip(15, 0, 0, 0, 0, 0, 0);
        }
        expect.same("there are 400", x.yes(0, 1, 100), 3);
        expect.same("fault", x.fault(0), 1);
        expect.same("blamed", x.fault(1), NO);
        expect.same("as not said", x.yes(0, 1, 100), 3);
        expect.yes("no", x.no(0, 1));
    }

    private static void ended() {
        CustodyRoom x = room();
        x.handing(0, 2, 1, 100);
        x.handing(0, 2, 1, 100);
        expect.no("no to 2", x.no(2, 1));
        expect.no("no to -1", x.no(-1, 1));
        expect.no("no of another hand", x.no(0, 0));
        expect.no("no of no hand", x.no(0, -1));
        expect.same("yes", x.yes(0, 2, 100), 0);
        expect.yes("no of who said yes", x.no(0, 2));
        expect.no("no again", x.no(0, 2));
        expect.no("no of the other", x.no(0, 1));
        expect.same("yes when ended", x.yes(0, 1, 100), NO);
        expect.same("about(5)", x.about(5), 2);
        expect.same("yes to the other HANDING", x.yes(1, 1, 100), 0);
        expect.same("its slip", x.yes(1, 2, 100), 1);
        expect.no("no behind the slip", x.no(1, 1));
        expect.same("the slip stays", x.about(3), 3);
    }

    private static void faultOfYes() {
        CustodyRoom x = room();
        x.handing(0, 2, 1, 100);
        x.slip(99, 0, 0, 0, 0, 0, 0);
        expect.same("yes that told 0", x.yes(0, 2, 100), 0);
        expect.same("fault of the slip() still", x.fault(0), 2);
        expect.same("yes that told NONE", x.yes(0, 2, 100), NO);
        expect.same("fault of the slip() still", x.fault(0), 2);
        expect.same("yes that told 1", x.yes(0, 1, 100), 1);
        expect.same("fault of the yes()", x.fault(0), 0);
        expect.same("blamed", x.fault(1), NO);
        CustodyRoom y = room();
        y.handing(1, 2, 1, 100);
        y.yes(0, 2, 100);
        y.yes(0, 1, 100);
        expect.same("fault of the yes()", y.fault(0), 5);
        expect.same("blamed", y.fault(1), 2);
        y.slip(13, 0, 0, 0, 0, 0, 0);
        expect.same("fault of the slip()", y.fault(0), 0);
        expect.same("blamed", y.fault(1), NO);
    }
}
