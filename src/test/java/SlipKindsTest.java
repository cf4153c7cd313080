/** Promise 7 and the terms of part II: what each kind of slip must find, and what it does. */
public final class SlipKindsTest {
    private static final Expect expect = new Expect();
    private static final int NO = -1;

    /** Hands 0, 1, 2 are keepers, 3 and 4 are not; shelf 0 (places 0 .. 11) is not cold, shelf 1 (12 .. 23) is. */
    private static CustodyRoom room() {
        CustodyRoom x = new CustodyRoom();
        x.hand(true);
        x.hand(true);
        x.hand(true);
        x.hand(false);
        x.hand(false);
        x.shelf(false);
        x.shelf(true);
        x.seals(0, 10);
        return x;
    }

    private static int placed(CustodyRoom x, int kind, int weight, int place) {
        int t = x.thing(kind, weight);
        taken("IN of a new thing", x.slip(1, t, 0, 1, place, 3, x.about(4)));
        return t;
    }

    private static void taken(String call, int answer) {
        expect.yes(call + " is taken", answer >= 0);
    }

    private static void refused(String call, int answer) {
        expect.same(call + " is refused", answer, NO);
    }

    private static int how(CustodyRoom x, int t, int what) {
        return x.where(t, x.about(4), x.about(4), what);
    }

    private static void stands(CustodyRoom x, int t, int standing, int number) {
        expect.same("how thing " + t + " stands", how(x, t, 0), standing);
        expect.same("where thing " + t + " stands", how(x, t, 1), number);
    }

    public static void main(String[] args) {
        faults();
        in();
        out();
        hand();
        back();
        put();
        into();
        intoInHands();
        eightInABag();
        fourBagsAround();
        from();
        closeAndUnseal();
        moneyBag();
        lookAt();
        part();
        copy();
        weigh();
        free();
        keepAndTrials();
        destroyed();
        destroyedWithParts();
        destroyedWithPartsOfOthers();
        found();
        onlyKept();
        expect.end();
    }

    private static void faults() {
        CustodyRoom x = room();
        int t = x.thing(0, 5);
        refused("kind 0", x.slip(0, t, 0, NO, 0, 3, 0));
        expect.same("fault", x.fault(0), 2);
        expect.same("the slip blamed", x.fault(1), NO);
        refused("kind 20", x.slip(20, t, 0, NO, 0, 3, 0));
        expect.same("fault", x.fault(0), 2);
        refused("thing -1", x.slip(1, -1, 0, NO, 0, 3, 0));
        expect.same("fault", x.fault(0), 3);
        refused("thing 1", x.slip(1, 1, 0, NO, 0, 3, 0));
        expect.same("fault", x.fault(0), 3);
        refused("minute -1", x.slip(1, t, 0, NO, 0, 3, -1));
        expect.same("fault", x.fault(0), 4);
        refused("minute above NOW", x.slip(1, t, 0, NO, 0, 3, 1));
        expect.same("fault", x.fault(0), 4);
        expect.same("fault(2)", x.fault(2), NO);
        expect.same("fault(-1)", x.fault(-1), NO);
        refused("kind and thing wrong", x.slip(20, 9, 0, NO, 0, 3, 9));
        expect.same("the first fault", x.fault(0), 2);
        refused("thing and minute wrong", x.slip(1, 9, 0, NO, 0, 3, 9));
        expect.same("the first fault", x.fault(0), 3);
        refused("not to be DONE", x.slip(2, t, 0, NO, 0, 3, 0));
        expect.same("fault", x.fault(0), 5);
        expect.same("the slip blamed", x.fault(1), 0);
        expect.same("IN", x.slip(1, t, 0, NO, 0, 3, 0), 0);
        expect.same("fault", x.fault(0), 0);
        expect.same("the slip blamed", x.fault(1), NO);
        for (int n = 1; n < 400; n++) {
            expect.same("slip " + n, x.slip(15, t, 0, 0, 0, 0, 0), n);
        }
        refused("slip 400", x.slip(15, t, 0, 0, 0, 0, 0));
        expect.same("fault", x.fault(0), 1);
        expect.same("the slip blamed", x.fault(1), NO);
        refused("slip 400 of no kind", x.slip(0, t, 0, 0, 0, 0, 0));
        expect.same("the first fault", x.fault(0), 1);
        expect.same("about(3)", x.about(3), 400);
    }

    private static void in() {
        CustodyRoom x = room();
        int t = x.thing(0, 5);
        int sample = x.thing(2, 0);
        int copy = x.thing(3, 0);
        int cold = x.thing(4, 0);
        refused("IN by no keeper", x.slip(1, t, 3, 0, 0, 3, 0));
        refused("IN by no hand", x.slip(1, t, -1, 0, 0, 3, 0));
        refused("IN by hand 5", x.slip(1, t, 5, 0, 0, 3, 0));
        refused("IN from no hand", x.slip(1, t, 0, 0, 0, -1, 0));
        refused("IN from hand 5", x.slip(1, t, 0, 0, 0, 5, 0));
        refused("IN to place 24", x.slip(1, t, 0, 0, 24, 3, 0));
        refused("IN of a sample", x.slip(1, sample, 0, 0, 0, 3, 0));
        refused("IN of a copy", x.slip(1, copy, 0, 0, 0, 3, 0));
        refused("IN of a cold bag", x.slip(1, cold, 0, 0, 0, 3, 0));
        stands(x, t, 0, NO);
        taken("IN", x.slip(1, t, 0, -7, 0, 0, 0));
        stands(x, t, 1, 0);
        refused("IN again", x.slip(1, t, 0, 0, 1, 3, 0));
        refused("IN to a place that isn't empty", x.slip(1, x.thing(0, 1), 0, 0, 0, 3, 0));
        taken("IN of a cold bag", x.slip(1, cold, 0, 0, 12, 3, 0));
    }

    private static void out() {
        CustodyRoom x = room();
        int t = placed(x, 0, 5, 0);
        refused("OUT by no keeper", x.slip(2, t, 3, 0, 3, 7, 0));
        refused("OUT to no hand", x.slip(2, t, 0, 0, 5, 7, 0));
        refused("OUT to hand -1", x.slip(2, t, 0, 0, -1, 7, 0));
        refused("OUT due on day -1", x.slip(2, t, 0, 0, 3, -1, 0));
        refused("OUT due on day 100001", x.slip(2, t, 0, 0, 3, 100001, 0));
        expect.same("due day", how(x, t, 6), NO);
        taken("OUT", x.slip(2, t, 0, 0, 3, 100000, 0));
        stands(x, t, 2, 3);
        expect.same("due day", how(x, t, 6), 100000);
        refused("OUT again", x.slip(2, t, 0, 0, 4, 7, 0));
        int u = placed(x, 0, 5, 0);
        taken("OUT due on day 0", x.slip(2, u, 0, 0, 3, 0, 0));
        expect.same("due day", how(x, u, 6), 0);
    }

    private static void hand() {
        CustodyRoom x = room();
        int t = placed(x, 0, 5, 0);
        refused("HAND from a place", x.slip(3, t, 0, 0, 3, 4, 0));
        taken("OUT", x.slip(2, t, 0, 0, 3, 7, 0));
        refused("HAND by another", x.slip(3, t, 0, 0, 4, 3, 0));
        refused("HAND to oneself", x.slip(3, t, 0, 0, 3, 3, 0));
        refused("HAND to no hand", x.slip(3, t, 0, 0, 3, 5, 0));
        refused("HAND to -1", x.slip(3, t, 0, 0, 3, -1, 0));
        taken("HAND", x.slip(3, t, -9, 99, 3, 4, 0));
        stands(x, t, 2, 4);
        expect.same("due day stays", how(x, t, 6), 7);
    }

    private static void back() {
        CustodyRoom x = room();
        int t = placed(x, 0, 5, 0);
        int u = placed(x, 0, 5, 1);
        refused("BACK from a place", x.slip(4, t, 0, 0, 2, 3, 0));
        taken("OUT", x.slip(2, t, 0, 0, 3, 7, 0));
        refused("BACK from another hand", x.slip(4, t, 0, 0, 0, 4, 0));
        refused("BACK by no keeper", x.slip(4, t, 3, 0, 0, 3, 0));
        refused("BACK to u's place", x.slip(4, t, 0, 0, 1, 3, 0));
        refused("BACK to no place", x.slip(4, t, 0, 0, 24, 3, 0));
        taken("BACK", x.slip(4, t, 0, 0, 0, 3, 0));
        stands(x, t, 1, 0);
        stands(x, u, 1, 1);
        expect.same("due no more", how(x, t, 6), NO);
        int cold = placed(x, 4, 0, 12);
        taken("OUT of a cold bag", x.slip(2, cold, 0, 0, 3, 7, 0));
        refused("BACK of a cold bag", x.slip(4, cold, 0, 0, 5, 3, 0));
        taken("BACK of a cold bag", x.slip(4, cold, 0, 0, 13, 3, 0));
    }

    private static void put() {
        CustodyRoom x = room();
        int t = placed(x, 0, 5, 0);
        int cold = placed(x, 4, 0, 12);
        refused("PUT by no keeper", x.slip(5, t, 4, 0, 2, 0, 0));
        refused("PUT where it is", x.slip(5, t, 0, 0, 0, 0, 0));
        refused("PUT where another is", x.slip(5, t, 0, 0, 12, 0, 0));
        refused("PUT to no place", x.slip(5, t, 0, 0, -1, 0, 0));
        taken("PUT", x.slip(5, t, 0, 0, 2, 99, 0));
        stands(x, t, 1, 2);
        taken("PUT to where it was", x.slip(5, t, 0, 0, 0, 0, 0));
        refused("PUT of a cold bag", x.slip(5, cold, 0, 0, 2, 0, 0));
        taken("PUT of a cold bag", x.slip(5, cold, 0, 0, 23, 0, 0));
        taken("OUT", x.slip(2, t, 0, 0, 3, 7, 0));
        refused("PUT from a hand", x.slip(5, t, 0, 0, 2, 0, 0));
    }

    private static void into() {
        CustodyRoom x = room();
        int t = placed(x, 0, 5, 0);
        int bag = placed(x, 1, 0, 1);
        int outer = placed(x, 1, 0, 2);
        int never = x.thing(1, 0);
        refused("INTO a thing", x.slip(6, bag, 0, 0, t, 0, 0));
        refused("INTO itself", x.slip(6, bag, 0, 0, bag, 0, 0));
        refused("INTO thing 99", x.slip(6, t, 0, 0, 99, 0, 0));
        refused("INTO thing -1", x.slip(6, t, 0, 0, -1, 0, 0));
        refused("INTO a bag that isn't KEPT", x.slip(6, t, 0, 0, never, 0, 0));
        refused("INTO by no keeper", x.slip(6, t, 3, 0, bag, 0, 0));
        taken("INTO", x.slip(6, t, 0, 0, bag, 0, 0));
        stands(x, t, 3, bag);
        expect.same("things of the bag", how(x, bag, 10), 1);
        refused("INTO another from a bag", x.slip(6, t, 0, 0, outer, 0, 0));
        taken("a bag INTO a bag", x.slip(6, bag, 0, 0, outer, 0, 0));
        expect.same("outermost, how", how(x, t, 4), 1);
        expect.same("outermost, where", how(x, t, 5), 2);
        expect.same("things of the outer bag", how(x, outer, 10), 1);
        refused("INTO what is in it", x.slip(6, outer, 0, 0, bag, 0, 0));
        int u = placed(x, 0, 5, 0);
        refused("INTO a bag in a bag", x.slip(6, u, 0, 0, bag, 0, 0));
        taken("CLOSE", x.slip(8, outer, 0, 0, 3, 0, 0));
        refused("INTO a sealed bag", x.slip(6, u, 0, 0, outer, 0, 0));
        taken("a sealed bag INTO a bag", x.slip(6, outer, 0, 0, placed(x, 1, 0, 5), 0, 0));
    }

    private static void intoInHands() {
        CustodyRoom x = room();
        int t = placed(x, 0, 5, 0);
        int bag = placed(x, 1, 0, 1);
        taken("OUT of t", x.slip(2, t, 0, 0, 3, 9, 0));
        refused("INTO from a hand to a place's bag", x.slip(6, t, 0, 0, bag, 0, 0));
        taken("OUT of the bag", x.slip(2, bag, 0, 0, 4, 9, 0));
        refused("INTO between two hands", x.slip(6, t, 0, 0, bag, 0, 0));
        taken("HAND", x.slip(3, t, 0, 0, 3, 4, 0));
        taken("INTO in one hand", x.slip(6, t, 0, 0, bag, 0, 0));
        stands(x, t, 3, bag);
        expect.same("outermost, how", how(x, t, 4), 2);
        expect.same("outermost, where", how(x, t, 5), 4);
        expect.same("due day stays in a bag", how(x, t, 6), 9);
        refused("HAND from a bag", x.slip(3, t, 0, 0, 4, 3, 0));
        taken("BACK of the bag", x.slip(4, bag, 0, 0, 7, 4, 0));
        expect.same("it went with the bag", how(x, t, 5), 7);
    }

    private static void eightInABag() {
        CustodyRoom x = room();
        int bag = placed(x, 1, 0, 0);
        for (int i = 0; i < 8; i++) {
            int t = placed(x, 0, 0, 1);
            taken("INTO " + i, x.slip(6, t, 0, 0, bag, 0, 0));
        }
        int ninth = placed(x, 0, 0, 1);
        expect.same("things", how(x, bag, 10), 8);
        refused("INTO 8", x.slip(6, ninth, 0, 0, bag, 0, 0));
        taken("FROM", x.slip(7, bag + 1, 0, 0, 2, 0, 0));
        taken("INTO again", x.slip(6, ninth, 0, 0, bag, 0, 0));
        // What is in a bag's bag isn't the outer bag's.
        int outer = placed(x, 1, 0, 3);
        taken("the bag INTO another", x.slip(6, bag, 0, 0, outer, 0, 0));
        expect.same("things of the outer", how(x, outer, 10), 1);
        taken("one more INTO the outer", x.slip(6, bag + 1, 0, 0, outer, 0, 0));
    }

    private static void fourBagsAround() {
        CustodyRoom x = room();
        int t = placed(x, 0, 0, 0);
        int[] bags = new int[5];
        for (int i = 0; i < 5; i++) {
            bags[i] = placed(x, 1, 0, i + 1);
        }
        taken("t INTO 0", x.slip(6, t, 0, 0, bags[0], 0, 0));
        taken("0 INTO 1", x.slip(6, bags[0], 0, 0, bags[1], 0, 0));
        taken("1 INTO 2", x.slip(6, bags[1], 0, 0, bags[2], 0, 0));
        taken("2 INTO 3: t is in four", x.slip(6, bags[2], 0, 0, bags[3], 0, 0));
        expect.same("outermost place of t", how(x, t, 5), 4);
        refused("3 INTO 4: t would be in five", x.slip(6, bags[3], 0, 0, bags[4], 0, 0));
        taken("t is FREE there", x.slip(13, t, 0, 0, 0, 0, 0));
        taken("CLOSE the outermost", x.slip(8, bags[3], 0, 0, 0, 0, 0));
        refused("t is not FREE", x.slip(13, t, 0, 0, 0, 0, 0));
        taken("t is FOUND", x.slip(19, t, 0, 0, 9, NO, 0));
        taken("3 INTO 4: bag 0 is in four", x.slip(6, bags[3], 0, 0, bags[4], 0, 0));
        expect.same("bag 0 has none", how(x, bags[0], 10), 0);
    }

    private static void from() {
        CustodyRoom x = room();
        int t = placed(x, 0, 0, 0);
        int cold = placed(x, 4, 0, 12);
        int bag = placed(x, 1, 0, 1);
        int outer = placed(x, 1, 0, 2);
        refused("FROM no bag", x.slip(7, t, 0, 0, 5, 0, 0));
        taken("t INTO", x.slip(6, t, 0, 0, bag, 0, 0));
        taken("cold bag INTO", x.slip(6, cold, 0, 0, bag, 0, 0));
        refused("FROM by no keeper", x.slip(7, t, 3, 0, 5, 0, 0));
        refused("FROM to the bag's place", x.slip(7, t, 0, 0, 1, 0, 0));
        refused("FROM to no place", x.slip(7, t, 0, 0, 24, 0, 0));
        refused("FROM of a cold bag", x.slip(7, cold, 0, 0, 5, 0, 0));
        taken("bag INTO outer", x.slip(6, bag, 0, 0, outer, 0, 0));
        refused("FROM a bag in a bag", x.slip(7, t, 0, 0, 5, 0, 0));
        taken("bag FROM outer", x.slip(7, bag, 0, 0, 1, 0, 0));
        taken("CLOSE", x.slip(8, bag, 0, 0, 0, 0, 0));
        refused("FROM a sealed bag", x.slip(7, t, 0, 0, 5, 0, 0));
        taken("UNSEAL", x.slip(9, bag, 0, 0, 0, 0, 0));
        taken("FROM to a place", x.slip(7, t, 0, 0, 5, 0, 0));
        stands(x, t, 1, 5);
        taken("OUT of the bag", x.slip(2, bag, 0, 0, 4, 3, 0));
        taken("FROM into the hand", x.slip(7, cold, 0, 0, -50, 0, 0));
        stands(x, cold, 2, 4);
        expect.same("not due by that", how(x, cold, 6), NO);
        expect.same("things of the bag", how(x, bag, 10), 0);
    }

    private static void closeAndUnseal() {
        CustodyRoom x = room();
        int t = placed(x, 0, 0, 0);
        int bag = placed(x, 1, 0, 1);
        int other = placed(x, 4, 0, 12);
        refused("CLOSE a thing", x.slip(8, t, 0, 0, 0, 0, 0));
        refused("CLOSE by seal -1", x.slip(8, bag, 0, 0, -1, 0, 0));
        refused("CLOSE by seal 10", x.slip(8, bag, 0, 0, 10, 0, 0));
        refused("CLOSE by seal 600", x.slip(8, bag, 0, 0, 600, 0, 0));
        refused("UNSEAL an OPEN bag", x.slip(9, bag, 0, 0, 0, 0, 0));
        taken("CLOSE by no keeper", x.slip(8, bag, -1, -1, 9, 0, 0));
        expect.same("its seal", how(x, bag, 3), 9);
        refused("CLOSE again", x.slip(8, bag, 0, 0, 8, 0, 0));
        refused("CLOSE another by it", x.slip(8, other, 0, 0, 9, 0, 0));
        refused("UNSEAL a thing", x.slip(9, t, 0, 0, 9, 0, 0));
        refused("UNSEAL with NONE seen", x.slip(9, bag, 0, 0, NO, 0, 0));
        refused("UNSEAL with 1000 seen", x.slip(9, bag, 0, 0, 1000, 0, 0));
        taken("UNSEAL with 999 seen", x.slip(9, bag, -1, -1, 999, 0, 0));
        expect.same("its seal", how(x, bag, 3), NO);
        refused("CLOSE by a used seal", x.slip(8, other, 0, 0, 9, 0, 0));
        taken("CLOSE anew", x.slip(8, bag, 0, 0, 0, 0, 0));
        expect.same("its seal", how(x, bag, 3), 0);
    }

    private static void moneyBag() {
        CustodyRoom x = room();
        int money = x.thing(5, 9);
        int t = placed(x, 0, 0, 0);
        int sample = x.thing(2, 0);
        int copy = x.thing(3, 0);
        refused("IN by one", x.slip(1, money, 0, NO, 1, 3, 0));
        refused("IN by one twice", x.slip(1, money, 0, 0, 1, 3, 0));
        refused("IN by one and no keeper", x.slip(1, money, 0, 3, 1, 3, 0));
        refused("IN by none and a keeper", x.slip(1, money, 3, 0, 1, 3, 0));
        taken("IN by two", x.slip(1, money, 0, 1, 1, 3, 0));
        refused("PUT by one", x.slip(5, money, 0, NO, 2, 0, 0));
        taken("PUT by two", x.slip(5, money, 1, 2, 2, 0, 0));
        refused("t INTO it by one", x.slip(6, t, 0, 0, money, 0, 0));
        taken("t INTO it by two", x.slip(6, t, 0, 1, money, 0, 0));
        refused("t FROM it by one", x.slip(7, t, 0, 0, 0, 0, 0));
        taken("t FROM it by two", x.slip(7, t, 0, 2, 0, 0, 0));
        refused("CLOSE by none", x.slip(8, money, NO, NO, 0, 0, 0));
        refused("CLOSE by one", x.slip(8, money, 0, NO, 0, 0, 0));
        taken("CLOSE by two", x.slip(8, money, 0, 1, 0, 0, 0));
        taken("LOOK by none", x.slip(10, money, NO, NO, 0, 0, 0));
        refused("UNSEAL by one", x.slip(9, money, 0, 0, 0, 0, 0));
        taken("UNSEAL by two", x.slip(9, money, 0, 1, 0, 0, 0));
        refused("PART by one", x.slip(11, money, 0, 0, sample, 1, 0));
        taken("PART by two", x.slip(11, money, 0, 1, sample, 1, 0));
        refused("COPY by one", x.slip(12, money, 0, 0, copy, 0, 0));
        taken("COPY by two", x.slip(12, money, 0, 1, copy, 0, 0));
        taken("WEIGH by none", x.slip(13, money, NO, NO, 0, 1, 0));
        refused("OUT by one", x.slip(2, money, 0, 0, 3, 1, 0));
        taken("OUT by two", x.slip(2, money, 0, 1, 3, 1, 0));
        taken("HAND by none", x.slip(3, money, NO, NO, 3, 4, 0));
        refused("BACK by one", x.slip(4, money, 0, 0, 4, 4, 0));
        taken("BACK by two", x.slip(4, money, 0, 1, 4, 4, 0));
        int bag = placed(x, 1, 0, 5);
        refused("it INTO a bag by one", x.slip(6, money, 0, 0, bag, 0, 0));
        taken("it INTO a bag by two", x.slip(6, money, 0, 1, bag, 0, 0));
        taken("PUT of the bag around it by one", x.slip(5, bag, 0, 0, 6, 0, 0));
        refused("it FROM a bag by one", x.slip(7, money, 0, 0, 1, 0, 0));
        taken("it FROM a bag by two", x.slip(7, money, 0, 1, 1, 0, 0));
        taken("FOUND by none", x.slip(19, money, NO, NO, NO, 4, 0));
    }

    private static void lookAt() {
        CustodyRoom x = room();
        int t = placed(x, 0, 0, 0);
        int bag = placed(x, 1, 0, 1);
        refused("LOOK at a thing", x.slip(10, t, 0, 0, 0, 0, 0));
        refused("LOOK, -2 seen", x.slip(10, bag, 0, 0, -2, 0, 0));
        refused("LOOK, 1000 seen", x.slip(10, bag, 0, 0, 1000, 0, 0));
        taken("LOOK, 999 seen", x.slip(10, bag, 0, 0, 999, 0, 0));
        taken("LOOK, NONE seen", x.slip(10, bag, 0, 0, NO, 0, 0));
        expect.same("its seal", how(x, bag, 3), NO);
    }

    private static void part() {
        CustodyRoom x = room();
        int t = placed(x, 0, 40, 0);
        int copy = x.thing(3, 0);
        int s = x.thing(2, 0);
        int s2 = x.thing(2, 0);
        int thing = x.thing(0, 1);
        refused("PART by no keeper", x.slip(11, t, 3, 0, s, 1, 0));
        refused("PART to a copy", x.slip(11, t, 0, 0, copy, 1, 0));
        refused("PART to a thing", x.slip(11, t, 0, 0, thing, 1, 0));
        refused("PART to thing 99", x.slip(11, t, 0, 0, 99, 1, 0));
        refused("PART to thing -1", x.slip(11, t, 0, 0, -1, 1, 0));
        refused("PART of 0", x.slip(11, t, 0, 0, s, 0, 0));
        refused("PART of 41", x.slip(11, t, 0, 0, s, 41, 0));
        refused("PART of what isn't KEPT", x.slip(11, s, 0, 0, s2, 1, 0));
        expect.same("of nothing yet", how(x, s, 11), NO);
        taken("PART of 40", x.slip(11, t, 2, 0, s, 40, 0));
        expect.same("t's weight", how(x, t, 2), 0);
        expect.same("the sample's weight", how(x, s, 2), 40);
        expect.same("of t", how(x, s, 11), t);
        stands(x, s, 2, 2);
        refused("PART of a weight of 0", x.slip(11, t, 0, 0, s2, 1, 0));
        refused("PART to one that is KEPT", x.slip(11, s, 0, 0, s, 1, 0));
        taken("PART of a part", x.slip(11, s, 0, 0, s2, 39, 0));
        expect.same("the sample's weight", how(x, s, 2), 1);
        expect.same("of the sample", how(x, s2, 11), s);
        taken("BACK of a sample", x.slip(4, s, 0, 0, 7, 2, 0));
        stands(x, s, 1, 7);
    }

    private static void copy() {
        CustodyRoom x = room();
        int t = placed(x, 0, 40, 0);
        int copy = x.thing(3, 0);
        int copy2 = x.thing(3, 0);
        int s = x.thing(2, 0);
        refused("COPY by no keeper", x.slip(12, t, 3, 0, copy, 0, 0));
        refused("COPY to a sample", x.slip(12, t, 0, 0, s, 0, 0));
        refused("COPY to -1", x.slip(12, t, 0, 0, -1, 0, 0));
        taken("COPY", x.slip(12, t, 1, 0, copy, -9, 0));
        stands(x, copy, 2, 1);
        expect.same("weight", how(x, copy, 2), 0);
        expect.same("t's weight", how(x, t, 2), 40);
        expect.same("of t", how(x, copy, 11), t);
        refused("COPY to one that is KEPT", x.slip(12, t, 0, 0, copy, 0, 0));
        taken("COPY of a copy", x.slip(12, copy, 0, 0, copy2, 0, 0));
        expect.same("of the copy", how(x, copy2, 11), copy);
        refused("PART of a copy", x.slip(11, copy, 0, 0, s, 1, 0));
    }

    private static void weigh() {
        CustodyRoom x = room();
        int t = placed(x, 0, 40, 0);
        refused("WEIGH -1", x.slip(13, t, 0, 0, 0, -1, 0));
        refused("WEIGH 41", x.slip(13, t, 0, 0, 0, 41, 0));
        taken("WEIGH 0", x.slip(13, t, NO, NO, 0, 0, 0));
        expect.same("weight", how(x, t, 2), 40);
        taken("WEIGH 30", x.slip(13, t, 0, 0, 0, 30, 0));
        expect.same("weight", how(x, t, 2), 10);
        refused("WEIGH 11", x.slip(13, t, 0, 0, 0, 11, 0));
        taken("WEIGH 10", x.slip(13, t, 0, 0, 0, 10, 0));
        expect.same("weight", how(x, t, 2), 0);
    }

    private static void free() {
        CustodyRoom x = room();
        int t = placed(x, 0, 40, 0);
        int bag = placed(x, 1, 5, 1);
        int s = x.thing(2, 0);
        int copy = x.thing(3, 0);
        taken("INTO", x.slip(6, t, 0, 0, bag, 0, 0));
        taken("CLOSE", x.slip(8, bag, 0, 0, 0, 0, 0));
        refused("WEIGH", x.slip(13, t, 0, 0, 0, 1, 0));
        refused("PART", x.slip(11, t, 0, 0, s, 1, 0));
        refused("COPY", x.slip(12, t, 0, 0, copy, 0, 0));
        taken("WEIGH of the sealed bag itself", x.slip(13, bag, 0, 0, 0, 1, 0));
        taken("UNSEAL", x.slip(9, bag, 0, 0, 0, 0, 0));
        taken("WEIGH", x.slip(13, t, 0, 0, 0, 1, 0));
        taken("PART", x.slip(11, t, 0, 0, s, 1, 0));
        taken("COPY", x.slip(12, t, 0, 0, copy, 0, 0));
        taken("CLOSE", x.slip(8, bag, 0, 0, 1, 0, 0));
        taken("OUT of the bag", x.slip(2, bag, 0, 0, 3, 0, 0));
        refused("WEIGH in a hand's sealed bag", x.slip(13, t, 0, 0, 0, 1, 0));
    }

    private static void keepAndTrials() {
        CustodyRoom x = room();
        int t = placed(x, 0, 40, 0);
        expect.same("kept until", how(x, t, 7), NO);
        refused("KEEP until -1", x.slip(14, t, 0, 0, -1, 0, 0));
        refused("KEEP until 100001", x.slip(14, t, 0, 0, 100001, 0, 0));
        taken("KEEP until 100000", x.slip(14, t, NO, NO, 100000, 0, 0));
        expect.same("kept until", how(x, t, 7), 100000);
        taken("KEEP until 0", x.slip(14, t, 0, 0, 0, 0, 0));
        expect.same("kept until", how(x, t, 7), 0);
        expect.same("to be destroyed", how(x, t, 8), 0);
        taken("DESTROY", x.slip(15, t, NO, NO, 77, 0, 0));
        taken("DESTROY again", x.slip(15, t, 0, 0, 0, 0, 0));
        expect.same("to be destroyed", how(x, t, 8), 1);
        refused("TRIAL -1", x.slip(16, t, 0, 0, -1, 0, 0));
        refused("TRIAL 31", x.slip(16, t, 0, 0, 31, 0, 0));
        refused("TRIAL 32", x.slip(16, t, 0, 0, 32, 0, 0));
        for (int c = 0; c <= 30; c++) {
            refused("OVER " + c, x.slip(17, t, 0, 0, c, 0, 0));
            taken("TRIAL " + c, x.slip(16, t, 0, 0, c, 0, 0));
            expect.same("trials", how(x, t, 9), c + 1);
        }
        refused("TRIAL 30 again", x.slip(16, t, 0, 0, 30, 0, 0));
        refused("OVER 31", x.slip(17, t, 0, 0, 31, 0, 0));
        refused("OVER 32", x.slip(17, t, 0, 0, 32, 0, 0));
        refused("OVER -1", x.slip(17, t, 0, 0, -1, 0, 0));
        taken("OVER 30", x.slip(17, t, 0, 0, 30, 0, 0));
        expect.same("trials", how(x, t, 9), 30);
        taken("TRIAL 30 anew", x.slip(16, t, 0, 0, 30, 0, 0));
    }

    private static void destroyed() {
        CustodyRoom x = room();
        int bag = placed(x, 1, 40, 0);
        int t = placed(x, 0, 1, 1);
        refused("DESTROYED without order", x.slip(18, bag, 0, 1, 3, 0, 0));
        taken("DESTROY", x.slip(15, bag, 0, 0, 0, 0, 0));
        taken("KEEP", x.slip(14, bag, 0, 0, 1, 0, 0));
        x.pass(1440);
        refused("DESTROYED at minute 1439", x.slip(18, bag, 0, 1, 3, 0, 1439));
        taken("INTO", x.slip(6, t, 0, 0, bag, 0, 1440));
        refused("DESTROYED with a thing in it", x.slip(18, bag, 0, 1, 3, 0, 1440));
        taken("FROM", x.slip(7, t, 0, 0, 1, 0, 1440));
        taken("TRIAL", x.slip(16, bag, 0, 0, 4, 0, 1440));
        refused("DESTROYED under a trial", x.slip(18, bag, 0, 1, 3, 0, 1440));
        taken("OVER", x.slip(17, bag, 0, 0, 4, 0, 1440));
        refused("by no keeper a", x.slip(18, bag, 3, 1, 2, 0, 1440));
        refused("by no keeper b", x.slip(18, bag, 0, 3, 2, 0, 1440));
        refused("by one twice", x.slip(18, bag, 0, 0, 2, 0, 1440));
        refused("third is a", x.slip(18, bag, 0, 1, 0, 0, 1440));
        refused("third is b", x.slip(18, bag, 0, 1, 1, 0, 1440));
        refused("third is none", x.slip(18, bag, 0, 1, 5, 0, 1440));
        refused("third is -1", x.slip(18, bag, 0, 1, -1, 0, 1440));
        taken("OUT", x.slip(2, bag, 0, 0, 3, 9, 1440));
        refused("DESTROYED in a hand", x.slip(18, bag, 0, 1, 3, 0, 1440));
        taken("FOUND at a place", x.slip(19, bag, 0, 0, 0, NO, 1440));
        taken("CLOSE", x.slip(8, bag, 0, 0, 5, 0, 1440));
        taken("DESTROYED", x.slip(18, bag, 0, 1, 4, 0, 1440));
        stands(x, bag, 4, NO);
        expect.same("weight as last", how(x, bag, 2), 40);
        expect.same("seal as last", how(x, bag, 3), 5);
        expect.same("outermost how", how(x, bag, 4), 4);
        expect.same("outermost number", how(x, bag, 5), NO);
        expect.same("due as last: FOUND leaves it", how(x, bag, 6), 9);
        expect.same("kept until as last", how(x, bag, 7), 1);
        expect.same("to be destroyed as last", how(x, bag, 8), 1);
        expect.same("due now", x.due(9, 0), NO);
        refused("IN of a gone thing", x.slip(1, bag, 0, 0, 9, 3, 1440));
        refused("FOUND of a gone thing", x.slip(19, bag, 0, 0, 9, NO, 1440));
        refused("KEEP of a gone thing", x.slip(14, bag, 0, 0, 9, 0, 1440));
        refused("INTO a gone bag", x.slip(6, t, 0, 0, bag, 0, 1440));
        taken("PUT to the place it had", x.slip(5, t, 0, 0, 0, 0, 1440));
    }

    private static void destroyedWithParts() {
        CustodyRoom x = room();
        int t = placed(x, 0, 40, 0);
        int bag = placed(x, 1, 0, 1);
        int s = x.thing(2, 0);
        int copy = x.thing(3, 0);
        taken("DESTROY", x.slip(15, t, 0, 0, 0, 0, 0));
        taken("PART", x.slip(11, t, 0, 0, s, 4, 0));
        taken("COPY of the part", x.slip(12, s, 0, 0, copy, 0, 0));
        refused("DESTROYED: both are in hands", x.slip(18, t, 0, 1, 3, 0, 0));
        taken("BACK of the part", x.slip(4, s, 0, 0, 5, 0, 0));
        refused("DESTROYED: the copy of the part is", x.slip(18, t, 0, 1, 3, 0, 0));
        taken("OUT of the bag", x.slip(2, bag, 0, 0, 0, 0, 0));
        taken("the copy INTO it", x.slip(6, copy, 0, 0, bag, 0, 0));
        taken("DESTROYED: a bag in a hand isn't itself of it", x.slip(18, t, 0, 1, 3, 0, 0));
        taken("the copy FROM the bag", x.slip(7, copy, 0, 0, 0, 0, 0));
        expect.same("of the part still", how(x, copy, 11), s);
        taken("DESTROY of the part", x.slip(15, s, 0, 0, 0, 0, 0));
        refused("DESTROYED of the part", x.slip(18, s, 0, 1, 3, 0, 0));
        taken("BACK of the copy", x.slip(4, copy, 0, 0, 6, 0, 0));
        taken("DESTROYED of the part", x.slip(18, s, 0, 1, 3, 0, 0));
    }

    private static void destroyedWithPartsOfOthers() {
        CustodyRoom x = room();
        int t = placed(x, 0, 40, 0);
        int u = placed(x, 0, 40, 1);
        int s = x.thing(2, 0);
        int s2 = x.thing(2, 0);
        taken("DESTROY", x.slip(15, t, 0, 0, 0, 0, 0));
        taken("PART of the other", x.slip(11, u, 0, 0, s2, 4, 0));
        taken("PART", x.slip(11, t, 0, 0, s, 4, 0));
        refused("DESTROYED: its part is in a hand", x.slip(18, t, 0, 1, 3, 0, 0));
        taken("BACK of its part", x.slip(4, s, 0, 0, 5, 0, 0));
        taken("DESTROYED: the other's part alone is", x.slip(18, t, 0, 1, 3, 0, 0));
    }

    private static void found() {
        CustodyRoom x = room();
        int t = placed(x, 0, 40, 0);
        int cold = placed(x, 4, 0, 12);
        int bag = placed(x, 1, 0, 1);
        refused("FOUND where it is", x.slip(19, t, 0, 0, 0, NO, 0));
        refused("FOUND where another is", x.slip(19, t, 0, 0, 1, NO, 0));
        refused("FOUND nowhere", x.slip(19, t, 0, 0, NO, NO, 0));
        refused("FOUND twice", x.slip(19, t, 0, 0, 4, 3, 0));
        refused("FOUND at place 24", x.slip(19, t, 0, 0, 24, NO, 0));
        refused("FOUND in hand 5", x.slip(19, t, 0, 0, NO, 5, 0));
        refused("FOUND at a place, d -2", x.slip(19, t, 0, 0, 4, -2, 0));
        refused("FOUND in a hand, c -2", x.slip(19, t, 0, 0, -2, 3, 0));
        refused("FOUND of a cold bag", x.slip(19, cold, 0, 0, 4, NO, 0));
        taken("FOUND of a cold bag", x.slip(19, cold, 0, 0, 14, NO, 0));
        taken("FOUND in a hand", x.slip(19, t, NO, NO, NO, 3, 0));
        stands(x, t, 2, 3);
        refused("FOUND in the same hand", x.slip(19, t, 0, 0, NO, 3, 0));
        taken("FOUND in another", x.slip(19, t, 0, 0, NO, 4, 0));
        taken("OUT of the bag", x.slip(2, bag, 0, 0, 4, 8, 0));
        taken("INTO it", x.slip(6, t, 0, 0, bag, 0, 0));
        taken("CLOSE", x.slip(8, bag, 0, 0, 0, 0, 0));
        taken("FOUND in the hand that has the bag", x.slip(19, t, 0, 0, NO, 4, 0));
        stands(x, t, 2, 4);
        expect.same("things of the bag", how(x, bag, 10), 0);
        expect.same("its seal stays", how(x, bag, 3), 0);
        taken("FOUND at a place", x.slip(19, bag, 0, 0, 1, NO, 0));
        expect.same("due still", how(x, bag, 6), 8);
    }

    private static void onlyKept() {
        CustodyRoom x = room();
        int bag = x.thing(1, 5);
        int s = x.thing(2, 0);
        for (int kind = 2; kind <= 19; kind++) {
            for (int c = -1; c <= 1; c++) {
                refused("kind " + kind + " of what isn't KEPT", x.slip(kind, bag, 0, 1, c, -1 - c, 0));
                refused("kind " + kind + " of what isn't KEPT", x.slip(kind, bag, 0, 1, 2, 0, 0));
                refused("kind " + kind + " of a sample", x.slip(kind, s, 0, 1, c, 0, 0));
            }
        }
    }
}
