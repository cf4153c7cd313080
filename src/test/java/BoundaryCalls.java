/** Promises 1 to 13: what there is, slips and their faults, HANDINGS, counts. */
final class BoundaryCalls implements Words {
    private BoundaryCalls() {
    }

    static void tell(Document doc) {
        tellOfWhatThereIs(doc);
        tellOfSlips(doc);
        tellOfHandings(doc);
        tellOfCounts(doc);
    }

    private static void tellOfWhatThereIs(Document doc) {
        doc.section("Promise 1");
        doc.holds("No hands, shelves, things, slips", BoundaryCalls::nothingAtFirst);
        doc.holds("all seals' rows MISSING", BoundaryCalls::allRowsMissing);
        doc.holds("NOW 0.", BoundaryCalls::nowIsZero);
        doc.section("Promise 2");
        doc.holds("A hand: its number.", BoundaryCalls::handNumbers);
        doc.holds("NONE if there are 20.", BoundaryCalls::noneIfThereAre20);
        doc.section("Promise 3");
        doc.holds("A shelf: its number.", BoundaryCalls::shelfNumbers);
        doc.holds("NONE if there are 8.", BoundaryCalls::noneIfThereAre8);
        doc.section("Promise 4");
        doc.holds("A row of seals has so many numbers, or is MISSING (NONE): true.", BoundaryCalls::rowHasSoMany);
        doc.holds("False, changing nothing: no such row, number", BoundaryCalls::noSuchRowOrNumber);
        doc.holds("or a slip 8 is TAKEN whose seal would be GIVEN OUT no more.", BoundaryCalls::givenOutNoMore);
        doc.section("Promise 5");
        doc.holds("A thing of a KIND (0 .. 5)", BoundaryCalls::kindsOfThings);
        doc.holds("and weight (0 .. 1000000; of samples, copies 0): its number.", BoundaryCalls::weightsOfThings);
        doc.holds("NONE for others", BoundaryCalls::noneForOtherThings);
        doc.holds("or if there are 60.", BoundaryCalls::noneIfThereAre60Things);
        doc.section("Promise 6");
        doc.holds("So many minutes go by (0 .. 100000): NOW.", BoundaryCalls::minutesGoBy);
        doc.holds("NONE, and none do, for others", BoundaryCalls::noneGoBy);
        doc.holds("or if NOW would be above 100000000.", BoundaryCalls::nowWouldBeAbove);
    }

    private static void tellOfSlips(Document doc) {
        doc.section("Promise 7");
        doc.holds("A slip is written: its number.", BoundaryCalls::slipsNumber);
        doc.holds("NONE: it is refused (its fault is told)", BoundaryCalls::refusedSlipChangesNothing);
        doc.holds("1 there are 400", BoundaryCalls::thereAre400);
        doc.holds("2 no such kind", BoundaryCalls::noSuchKind);
        doc.holds("3 no such thing", BoundaryCalls::noSuchThing);
        doc.holds("4 the minute is below 0 or above NOW", BoundaryCalls::minuteBelowOrAbove);
        doc.holds("5 it isn't TAKEN.", BoundaryCalls::notTaken);
        doc.section("Promise 8");
        doc.holds("Of the latest slip(), or yes() that told 1, 2 or 3", BoundaryCalls::faultOfTheLatest);
        doc.holds("0 its fault (0 without; of yes() 5 if the slip isn't TAKEN, 1 if there are 400)",
                BoundaryCalls::faultItself);
        doc.holds("1 by fault 5 the slip that can't be DONE (else NONE).", BoundaryCalls::faultBlames);
        doc.holds("NONE for others", BoundaryCalls::faultOfOthers);
        doc.holds("and ahead of any.", BoundaryCalls::faultAheadOfAny);
    }

    private static void tellOfHandings(Document doc) {
        doc.section("Promise 9");
        doc.holds("A HANDING is begun at a minute (0 .. NOW): its number.", BoundaryCalls::handingBegun);
        doc.holds("NONE: no such thing, hands", BoundaryCalls::handingOfNoSuch);
        doc.holds("the same one twice", BoundaryCalls::handingToOneself);
        doc.holds("another minute", BoundaryCalls::handingAtAnotherMinute);
        doc.holds("or there are 60.", BoundaryCalls::sixtyHandings);
        doc.section("Promise 10");
        doc.holds("A hand says yes to a HANDING at a minute: 0 the other one hasn't", BoundaryCalls::yesTells0);
        doc.holds("1 the slip is written", BoundaryCalls::yesTells1);
        doc.holds("2 it is, LATE", BoundaryCalls::yesTells2);
        doc.holds("3 it isn't TAKEN, or there are 400.", BoundaryCalls::yesTells3);
        doc.holds("NONE: no such HANDING", BoundaryCalls::yesToNoSuchHanding);
        doc.holds("it has ended", BoundaryCalls::yesToEnded);
        doc.holds("the hand isn't one of both", BoundaryCalls::yesOfAnotherHand);
        doc.holds("or has said yes", BoundaryCalls::yesTwice);
        doc.holds("the minute is below the HANDING's or above NOW.", BoundaryCalls::yesAtAnotherMinute);
        doc.section("Promise 11");
        doc.holds("A hand says no: true, it has ended.", BoundaryCalls::noEnds);
        doc.holds("False: no such one", BoundaryCalls::noToNoSuchOne);
        doc.holds("it has ended, or", BoundaryCalls::noToEnded);
        doc.holds("the hand isn't one of both.", BoundaryCalls::noOfAnotherHand);
    }

    private static void tellOfCounts(Document doc) {
        doc.section("Promise 12");
        doc.holds("0 hands, 1 shelves, 2 things, 3 slips, 4 NOW, 5 HANDINGS", BoundaryCalls::counts);
        doc.holds("6 slips of the IMAGE (NONE without one).", BoundaryCalls::slipsOfTheImage);
        doc.holds("NONE for others.", BoundaryCalls::countsOfOthers);
        doc.section("Promise 13");
        doc.holds("Of slip i: 0 kind, 1 thing, 2 to 5 a, b, c, d, 6 its minute, 7 the one at which it was written",
                BoundaryCalls::slipAsWritten);
        doc.holds("8 whether it is late (1: some slip with a lower number has a later minute).",
                BoundaryCalls::slipIsLate);
        doc.holds("NONE for others.", BoundaryCalls::slipOfOthers);
    }

    private static void nothingAtFirst(Expect expect) {
        Counted x = new Counted(expect);
        for (int what = 0; what <= 3; what++) {
            expect.same("about(" + what + ")", x.about(what), 0);
        }
        expect.same("slipOf(0, 0)", x.slipOf(0, 0), NONE);
        expect.same("where(0, 0, 0, 0)", x.where(0, 0, 0, 0), NONE);
        expect.same("slip of thing 0", x.slip(IN, 0, 0, NONE, 0, 0, 0), NONE);
        expect.same("its fault", x.fault(0), 3);
        x.thing(A_THING, 0);
        expect.same("IN by hand 0, to place 0", x.slip(IN, 0, 0, NONE, 0, 0, 0), NONE);
        x.hand(true);
        expect.same("IN to place 0", x.slip(IN, 0, 0, NONE, 0, 0, 0), NONE);
        x.shelf(false);
        expect.same("IN", x.slip(IN, 0, 0, NONE, 0, 0, 0), 0);
    }

    private static void allRowsMissing(Expect expect) {
        for (int row = 0; row < 6; row++) {
            Counted x = new Counted(expect);
            x.hand(true);
            x.shelf(false);
            x.thing(A_BAG, 0);
            x.slip(IN, 0, 0, NONE, 0, 0, 0);
            expect.same("CLOSE by " + 100 * row, x.slip(CLOSE, 0, 0, NONE, 100 * row, 0, 0), NONE);
            x.seals(row, 1);
            expect.same("CLOSE by " + 100 * row, x.slip(CLOSE, 0, 0, NONE, 100 * row, 0, 0), 1);
        }
    }

    private static void nowIsZero(Expect expect) {
        Counted x = new Counted(expect);
        expect.same("NOW", x.about(4), 0);
        x.hand(true);
        x.shelf(false);
        x.thing(A_THING, 0);
        expect.same("a slip at 1", x.slip(IN, 0, 0, NONE, 0, 0, 1), NONE);
        expect.same("its fault", x.fault(0), 4);
        expect.same("a slip at 0", x.slip(IN, 0, 0, NONE, 0, 0, 0), 0);
        expect.same("written at", x.slipOf(0, 7), 0);
    }

    private static void handNumbers(Expect expect) {
        Counted x = new Counted(expect);
        for (int i = 0; i < 20; i++) {
            expect.same("hand", x.hand(i % 2 == 0), i);
            expect.same("how many", x.about(0), i + 1);
        }
    }

    private static void noneIfThereAre20(Expect expect) {
        Counted x = new Counted(expect);
        for (int i = 0; i < 19; i++) {
            x.hand(false);
        }
        expect.same("hand, with 19", x.hand(false), 19);
        expect.same("hand, with 20", x.hand(true), NONE);
        expect.same("hand, with 20", x.hand(false), NONE);
        expect.same("how many", x.about(0), 20);
        // The refused KEEPER is nobody, and makes none of the others one.
        x.shelf(false);
        x.thing(A_THING, 0);
        for (int a = 0; a <= 20; a++) {
            expect.same("IN by hand " + a, x.slip(IN, 0, a, NONE, 0, 0, 0), NONE);
        }
    }

    private static void shelfNumbers(Expect expect) {
        Counted x = new Counted(expect);
        for (int i = 0; i < 8; i++) {
            expect.same("shelf", x.shelf(i % 2 == 0), i);
            expect.same("how many", x.about(1), i + 1);
        }
    }

    private static void noneIfThereAre8(Expect expect) {
        Counted x = new Counted(expect);
        for (int i = 0; i < 7; i++) {
            x.shelf(false);
        }
        expect.same("shelf, with 7", x.shelf(false), 7);
        expect.same("shelf, with 8", x.shelf(true), NONE);
        expect.same("shelf, with 8", x.shelf(false), NONE);
        expect.same("how many", x.about(1), 8);
        // The refused COLD one is nowhere, and makes none of the others COLD.
        x.hand(true);
        x.thing(A_COLD_BAG, 0);
        for (int i = 0; i <= 8; i++) {
            expect.same("a cold bag on shelf " + i, x.slip(IN, 0, 0, NONE, 12 * i, 0, 0), NONE);
        }
    }

    private static void rowHasSoMany(Expect expect) {
        Scene s = new Scene(expect);
        int bag = s.lay(A_BAG, 0, 0);
        for (int row = 0; row < 6; row++) {
            for (int many : new int[] {50, 0, 1, NONE, 2}) {
                expect.yes("seals(" + row + ", " + many + ")", s.room.seals(row, many));
                s.refused(CLOSE, bag, NONE, NONE, 100 * row + Math.max(many, 0), 0);
            }
            s.taken(CLOSE, bag, NONE, NONE, 100 * row + 1, 0);
            s.taken(UNSEAL, bag, NONE, NONE, 100 * row + 1, 0);
        }
    }

    private static void noSuchRowOrNumber(Expect expect) {
        Scene s = new Scene(expect);
        int bag = s.lay(A_BAG, 0, 0);
        for (int row : new int[] {MIN, -2, -1, 6, 7, 100, MAX}) {
            expect.no("seals(" + row + ", 5)", s.room.seals(row, 5));
            expect.no("seals(" + row + ", NONE)", s.room.seals(row, NONE));
        }
        for (int many : new int[] {MIN, -2, 51, 52, 100, MAX}) {
            expect.no("seals(0, " + many + ")", s.room.seals(0, many));
            expect.no("seals(5, " + many + ")", s.room.seals(5, many));
        }
        // Row 0 has its ten, row 5 is MISSING still.
        s.refused(CLOSE, bag, NONE, NONE, 500, 0);
        s.refused(CLOSE, bag, NONE, NONE, 10, 0);
        s.taken(CLOSE, bag, NONE, NONE, 9, 0);
    }

    private static void givenOutNoMore(Expect expect) {
        Scene s = new Scene(expect);
        int bag = s.lay(A_BAG, 0, 0);
        int other = s.lay(A_BAG, 0, 1);
        s.taken(CLOSE, bag, NONE, NONE, 4, 0);
        for (int many : new int[] {NONE, 0, 4}) {
            expect.no("seals(0, " + many + ") with 4 put on", s.room.seals(0, many));
        }
        // Nothing has changed: 9 is GIVEN OUT.
        s.taken(CLOSE, other, NONE, NONE, 9, 0);
        s.taken(UNSEAL, other, NONE, NONE, 9, 0);
        expect.no("seals(0, 9) with 9 taken off", s.room.seals(0, 9));
        expect.yes("seals(0, 10)", s.room.seals(0, 10));
        expect.yes("seals(0, 50)", s.room.seals(0, 50));
        expect.yes("seals(1, 50), another row", s.room.seals(1, 50));
        expect.yes("seals(1, NONE)", s.room.seals(1, NONE));
        // A seal that was seen or refused wasn't put on.
        s.room.seals(2, 1);
        s.taken(LOOK, other, NONE, NONE, 200, 0);
        s.refused(CLOSE, bag, NONE, NONE, 200, 0);
        expect.yes("seals(2, 0)", s.room.seals(2, 0));
        sealOfTheFirstSlip(expect);
    }

    /** By way of an altered IMAGE the CLOSE may be slip 0, ahead of the IN by its number alone. */
    private static void sealOfTheFirstSlip(Expect expect) {
        Scene s = new Scene(expect);
        int bag = s.add(A_BAG, 0);
        s.room.pass(10);
        s.takenAt(5, IN, bag, ANN, NONE, 0, DAN);
        s.takenAt(6, PUT, bag, ANN, NONE, 1, 0);
        s.room.freeze();
        int[][] altered = {{0, 0, CLOSE}, {0, 4, 3}, {0, 6, 6}, {1, 0, IN}, {1, 6, 5}};
        for (int[] x : altered) {
            expect.yes("alter", s.room.alter(x[0], x[1], x[2]));
        }
        expect.yes("seals(0, 3) ahead of thaw", s.room.seals(0, 3));
        expect.no("thaw, without the seal", s.room.thaw());
        expect.yes("seals(0, 4)", s.room.seals(0, 4));
        expect.yes("thaw", s.room.thaw());
        expect.no("seals(0, 3) behind thaw", s.room.seals(0, 3));
        s.is(bag, 3, 3);
    }

    private static void kindsOfThings(Expect expect) {
        Counted x = new Counted(expect);
        for (int kind = 0; kind <= 5; kind++) {
            expect.same("thing(" + kind + ", 0)", x.thing(kind, 0), kind);
        }
        for (int kind : new int[] {MIN, -2, -1, 6, 7, MAX}) {
            expect.same("thing(" + kind + ", 0)", x.thing(kind, 0), NONE);
        }
        expect.same("how many", x.about(2), 6);
    }

    private static void weightsOfThings(Expect expect) {
        Counted x = new Counted(expect);
        for (int kind : new int[] {A_THING, A_BAG, A_COLD_BAG, A_MONEY_BAG}) {
            int number = x.about(2);
            expect.same("thing(" + kind + ", 0)", x.thing(kind, 0), number);
            expect.same("thing(" + kind + ", 1000000)", x.thing(kind, 1000000), number + 1);
            expect.same("its weight", x.where(number, 0, 0, 2), 0);
            expect.same("its weight", x.where(number + 1, 0, 0, 2), 1000000);
        }
        expect.same("thing(2, 0)", x.thing(A_SAMPLE, 0), 8);
        expect.same("thing(3, 0)", x.thing(A_COPY, 0), 9);
    }

    private static void noneForOtherThings(Expect expect) {
        Counted x = new Counted(expect);
        for (int kind = 0; kind <= 5; kind++) {
            for (int weight : new int[] {MIN, -1, 1000001, MAX}) {
                expect.same("thing(" + kind + ", " + weight + ")", x.thing(kind, weight), NONE);
            }
        }
        for (int weight : new int[] {1, 1000000}) {
            expect.same("a sample of " + weight, x.thing(A_SAMPLE, weight), NONE);
            expect.same("a copy of " + weight, x.thing(A_COPY, weight), NONE);
        }
        expect.same("how many", x.about(2), 0);
        expect.same("the first", x.thing(A_THING, 1), 0);
    }

    private static void noneIfThereAre60Things(Expect expect) {
        Counted x = new Counted(expect);
        for (int i = 0; i < 60; i++) {
            expect.same("thing, with " + i, x.thing(A_THING, i), i);
        }
        expect.same("thing, with 60", x.thing(A_BAG, 7), NONE);
        expect.same("how many", x.about(2), 60);
        expect.same("where of 60", x.where(60, 0, 0, 2), NONE);
        expect.same("weight of 59", x.where(59, 0, 0, 2), 59);
    }

    private static void minutesGoBy(Expect expect) {
        Counted x = new Counted(expect);
        expect.same("pass(0)", x.pass(0), 0);
        expect.same("pass(1)", x.pass(1), 1);
        expect.same("pass(100000)", x.pass(100000), 100001);
        expect.same("pass(99999)", x.pass(99999), 200000);
        expect.same("pass(0)", x.pass(0), 200000);
        expect.same("NOW", x.about(4), 200000);
    }

    private static void noneGoBy(Expect expect) {
        Counted x = new Counted(expect);
        x.pass(5);
        for (int minutes : new int[] {MIN, -5, -1, 100001, 100000000, MAX - 4, MAX}) {
            expect.same("pass(" + minutes + ")", x.pass(minutes), NONE);
            expect.same("NOW", x.about(4), 5);
        }
    }

    /** 1000 calls are past an object's 512, but no sooner can NOW come to its bound: the one test that goes there. */
    private static void nowWouldBeAbove(Expect expect) {
        CustodyRoom x = new CustodyRoom();
        for (int i = 0; i < 999; i++) {
            x.pass(100000);
        }
        x.pass(99999);
        expect.same("pass(2) at 99999999", x.pass(2), NONE);
        expect.same("pass(100000) at 99999999", x.pass(100000), NONE);
        expect.same("NOW", x.about(4), 99999999);
        expect.same("pass(1) at 99999999", x.pass(1), 100000000);
        expect.same("pass(1) at 100000000", x.pass(1), NONE);
        expect.same("pass(0) at 100000000", x.pass(0), 100000000);
        expect.same("NOW", x.about(4), 100000000);
    }

    private static void slipsNumber(Expect expect) {
        for (int kind = IN; kind <= FOUND; kind++) {
            Scene s = new Scene(expect);
            int[] x = s.ready(kind);
            int number = s.taken(kind, x[1], x[2], x[3], x[4], x[5]);
            expect.same("its kind", s.room.slipOf(number, 0), kind);
            expect.same("one more", s.room.slipOf(number + 1, 0), NONE);
        }
    }

    private static void refusedSlipChangesNothing(Expect expect) {
        int[][] refused = {{0, 0, ANN, NONE, 0, 0, 10, 2}, {WEIGH, 9, ANN, NONE, 0, 0, 10, 3},
            {WEIGH, 0, ANN, NONE, 0, 0, 11, 4}, {WEIGH, 0, ANN, NONE, 0, 10, 10, 5}, {PUT, 0, ANN, NONE, 1, 0, 0, 5},
            {OUT, 0, ANN, NONE, DAN, 7, 5, 5}, {FOUND, 0, ANN, NONE, NONE, DAN, 8, 5}};
        for (int[] x : refused) {
            Scene s = new Scene(expect);
            int t = s.lay(A_THING, 9, 0);
            s.room.pass(10);
            s.takenAt(9, PUT, t, ANN, NONE, 1, 0);
            s.lay(A_BAG, 0, 2);
            s.room.freeze();
            String before = s.state();
            s.refusedBy(x[7], x[6], x[0], x[1], x[2], x[3], x[4], x[5]);
            expect.yes("all is as before", s.state().equals(before));
        }
    }

    /** A room with 400 slips, all of the minute 0, and NOW 10. */
    private static Scene full(Expect expect) {
        Scene s = new Scene(expect);
        int t = s.give(A_THING, 9, DAN);
        s.fill(t, 400);
        s.room.pass(10);
        return s;
    }

    private static void thereAre400(Expect expect) {
        Scene s = full(expect);
        s.refusedBy(1, 10, WEIGH, 0, NONE, NONE, 0, 0);
        s.refusedBy(1, 0, WEIGH, 0, NONE, NONE, 0, 0);
        expect.same("the slip blamed", s.room.fault(1), NONE);
        expect.same("slip 400", s.room.slipOf(400, 0), NONE);
        expect.same("the last", s.room.slipOf(399, 0), WEIGH);
    }

    private static void noSuchKind(Expect expect) {
        Scene s = new Scene(expect);
        int t = s.lay(A_THING, 9, 0);
        for (int kind : new int[] {MIN, -1, 0, 20, 21, MAX}) {
            s.refusedBy(2, 0, kind, t, ANN, BEN, CAT, NONE);
        }
        // The first and the last there are.
        s.taken(IN, s.add(A_THING, 0), ANN, NONE, 1, DAN);
        s.taken(FOUND, t, NONE, NONE, 2, NONE);
    }

    private static void noSuchThing(Expect expect) {
        Scene s = new Scene(expect);
        s.refusedBy(3, 0, IN, 0, ANN, NONE, 0, DAN);
        int t = s.lay(A_THING, 9, 0);
        for (int thing : new int[] {MIN, -1, 1, 59, 60, MAX}) {
            for (int kind = IN; kind <= FOUND; kind++) {
                s.refusedBy(3, 0, kind, thing, ANN, BEN, CAT, NONE);
            }
        }
        s.taken(WEIGH, t, NONE, NONE, 0, 0);
    }

    private static void minuteBelowOrAbove(Expect expect) {
        Scene s = new Scene(expect);
        int t = s.lay(A_THING, 9, 0);
        s.room.pass(10);
        for (int minute : new int[] {MIN, -2, -1, 11, 12, MAX}) {
            s.refusedBy(4, minute, WEIGH, t, NONE, NONE, 0, 0);
        }
        s.takenAt(0, WEIGH, t, NONE, NONE, 0, 0);
        s.takenAt(10, WEIGH, t, NONE, NONE, 0, 0);
    }

    private static void notTaken(Expect expect) {
        Scene s = new Scene(expect);
        int t = s.lay(A_THING, 9, 0);
        s.room.pass(10);
        s.takenAt(10, WEIGH, t, NONE, NONE, 0, 9);
        s.refusedAt(10, 2, WEIGH, t, NONE, NONE, 0, 1);
        s.refusedAt(9, 1, WEIGH, t, NONE, NONE, 0, 1);
        s.takenAt(9, WEIGH, t, NONE, NONE, 0, 0);
    }

    /** Thing 0 is in DAN's hand from minute 0 on; NOW is 100; HANDING 0 of minute 10 from DAN to EVE. */
    private static Scene handed(Expect expect) {
        Scene s = new Scene(expect);
        s.give(A_THING, 9, DAN);
        s.room.pass(100);
        expect.same("handing", s.room.handing(0, DAN, EVE, 10), 0);
        return s;
    }

    private static void faultOfTheLatest(Expect expect) {
        Scene s = handed(expect);
        s.refusedBy(2, 0, 0, 0, NONE, NONE, 0, 0);
        expect.same("yes that told 0", s.room.yes(0, DAN, 10), 0);
        expect.same("fault, of the slip still", s.room.fault(0), 2);
        expect.same("yes that told NONE", s.room.yes(0, DAN, 10), NONE);
        expect.same("fault, of the slip still", s.room.fault(0), 2);
        expect.same("yes that told 1", s.room.yes(0, EVE, 10), 1);
        expect.same("fault, of that yes", s.room.fault(0), 0);
        s.refusedBy(3, 0, WEIGH, 5, NONE, NONE, 0, 0);
        s.room.handing(0, EVE, DAN, 20);
        s.room.yes(1, EVE, 51);
        expect.same("fault, of the slip still", s.room.fault(0), 3);
        expect.same("yes that told 2", s.room.yes(1, DAN, 20), 2);
        expect.same("fault, of that yes", s.room.fault(0), 0);
        s.room.handing(0, EVE, DAN, 60);
        s.room.yes(2, EVE, 60);
        expect.same("yes that told 3", s.room.yes(2, DAN, 60), 3);
        expect.same("fault, of that yes", s.room.fault(0), 5);
        s.takenAt(100, WEIGH, 0, NONE, NONE, 0, 0);
        // Other calls that answer NONE or false don't count.
        s.room.seals(9, 9);
        s.room.no(9, 9);
        s.room.pass(-1);
        expect.same("fault, of the slip", s.room.fault(0), 0);
    }

    private static void faultItself(Expect expect) {
        Scene s = full(expect);
        s.room.handing(0, DAN, EVE, 0);
        s.room.yes(0, DAN, 0);
        expect.same("without", s.room.fault(0), 0);
        expect.same("yes, there are 400", s.room.yes(0, EVE, 0), 3);
        expect.same("fault", s.room.fault(0), 1);
        Scene t = handed(expect);
        t.room.yes(0, DAN, 10);
        t.takenAt(5, HAND, 0, NONE, NONE, DAN, CAT);
        expect.same("yes, it isn't TAKEN", t.room.yes(0, EVE, 10), 3);
        expect.same("fault", t.room.fault(0), 5);
        Scene u = handed(expect);
        u.refusedBy(4, 101, WEIGH, 0, NONE, NONE, 0, 0);
        u.room.yes(0, DAN, 10);
        expect.same("yes", u.room.yes(0, EVE, 10), 1);
        expect.same("without", u.room.fault(0), 0);
    }

    private static void faultBlames(Expect expect) {
        Scene s = handed(expect);
        s.refusedAt(50, 2, WEIGH, 0, NONE, NONE, 0, 10);
        s.takenAt(50, WEIGH, 0, NONE, NONE, 0, 9);
        expect.same("blamed without fault", s.room.fault(1), NONE);
        s.refusedAt(40, 2, WEIGH, 0, NONE, NONE, 0, 1);
        int[][] others = {{0, 0, 0, 2}, {WEIGH, 1, 0, 3}, {WEIGH, 0, -1, 4}, {WEIGH, 0, 101, 4}};
        for (int[] x : others) {
            s.refusedAt(40, 2, WEIGH, 0, NONE, NONE, 0, 1);
            s.refusedBy(x[3], x[2], x[0], x[1], NONE, NONE, 0, 0);
            expect.same("blamed by fault " + x[3], s.room.fault(1), NONE);
        }
        // By yes(): the slip that it would have written, then one that was told already.
        s.room.yes(0, DAN, 10);
        s.takenAt(60, HAND, 0, NONE, NONE, DAN, CAT);
        expect.same("yes", s.room.yes(0, EVE, 10), 3);
        expect.same("blamed", s.room.fault(1), 3);
        expect.same("yes, LATE, behind the HAND", s.room.yes(0, EVE, 60), 3);
        expect.same("blamed, itself", s.room.fault(1), 4);
        Scene t = full(expect);
        t.refusedBy(1, 0, WEIGH, 0, NONE, NONE, 0, 0);
        expect.same("blamed by fault 1", t.room.fault(1), NONE);
    }

    private static void faultOfOthers(Expect expect) {
        Scene s = new Scene(expect);
        s.add(A_THING, 0);
        s.refusedAt(0, 0, WEIGH, 0, NONE, NONE, 0, 0);
        for (int what : new int[] {MIN, -2, -1, 2, 3, MAX}) {
            expect.same("fault(" + what + ")", s.room.fault(what), NONE);
        }
    }

    private static void faultAheadOfAny(Expect expect) {
        Counted x = new Counted(expect);
        expect.same("fault(0)", x.fault(0), NONE);
        expect.same("fault(1)", x.fault(1), NONE);
        x.hand(true);
        x.hand(true);
        x.thing(A_THING, 0);
        x.handing(0, 0, 1, 0);
        x.yes(0, 0, 0);
        expect.same("fault(0) behind a yes that told 0", x.fault(0), NONE);
        x.yes(0, 0, 0);
        expect.same("fault(0) behind a yes that told NONE", x.fault(0), NONE);
        expect.same("fault(1)", x.fault(1), NONE);
        x.yes(0, 1, 0);
        expect.same("fault(0) behind a yes that told 3", x.fault(0), 5);
        expect.same("fault(1)", x.fault(1), 0);
    }

    private static void handingBegun(Expect expect) {
        Scene s = handed(expect);
        expect.same("at 0", s.room.handing(0, DAN, EVE, 0), 1);
        expect.same("at NOW", s.room.handing(0, DAN, EVE, 100), 2);
        // Of a thing that isn't KEPT too.
        expect.same("of another thing", s.room.handing(s.add(A_THING, 0), DAN, EVE, 50), 3);
        expect.same("how many", s.room.about(5), 4);
        expect.same("slips", s.slips(), 2);
    }

    private static void handingOfNoSuch(Expect expect) {
        Scene s = handed(expect);
        for (int thing : new int[] {MIN, -1, 1, 59, 60, MAX}) {
            expect.same("of thing " + thing, s.room.handing(thing, DAN, EVE, 0), NONE);
        }
        for (int hand : NO_HANDS) {
            expect.same("from hand " + hand, s.room.handing(0, hand, EVE, 0), NONE);
            expect.same("to hand " + hand, s.room.handing(0, DAN, hand, 0), NONE);
        }
        expect.same("how many", s.room.about(5), 1);
        expect.same("from the first hand to the last", s.room.handing(0, ANN, EVE, 0), 1);
        expect.same("from the last hand to the first", s.room.handing(0, EVE, ANN, 0), 2);
    }

    private static void handingToOneself(Expect expect) {
        Scene s = handed(expect);
        for (int hand = ANN; hand <= EVE; hand++) {
            expect.same("from and to " + hand, s.room.handing(0, hand, hand, 0), NONE);
        }
        expect.same("how many", s.room.about(5), 1);
    }

    private static void handingAtAnotherMinute(Expect expect) {
        Scene s = handed(expect);
        for (int minute : new int[] {MIN, -1, 101, MAX}) {
            expect.same("at " + minute, s.room.handing(0, DAN, EVE, minute), NONE);
        }
        expect.same("how many", s.room.about(5), 1);
        s.room.pass(1);
        expect.same("at 101", s.room.handing(0, DAN, EVE, 101), 1);
    }

    private static void sixtyHandings(Expect expect) {
        Scene s = handed(expect);
        for (int i = 1; i < 60; i++) {
            expect.same("handing", s.room.handing(0, DAN, EVE, 10), i);
        }
        expect.same("handing 60", s.room.handing(0, DAN, EVE, 10), NONE);
        // One that has ended counts too.
        s.room.no(59, DAN);
        expect.same("handing 60", s.room.handing(0, DAN, EVE, 10), NONE);
        expect.same("how many", s.room.about(5), 60);
    }

    private static void yesTells0(Expect expect) {
        for (int hand : new int[] {DAN, EVE}) {
            Scene s = handed(expect);
            expect.same("yes", s.room.yes(0, hand, 10), 0);
            expect.same("slips", s.slips(), 2);
        }
    }

    private static void yesTells1(Expect expect) {
        Scene s = handed(expect);
        s.room.yes(0, DAN, 10);
        expect.same("yes, 30 behind", s.room.yes(0, EVE, 40), 1);
        expect.same("slips", s.slips(), 3);
        expect.same("minute of the slip", s.room.slipOf(2, 6), 10);
    }

    private static void yesTells2(Expect expect) {
        Scene s = handed(expect);
        s.room.yes(0, DAN, 10);
        expect.same("yes, 31 behind", s.room.yes(0, EVE, 41), 2);
        expect.same("slips", s.slips(), 3);
        expect.same("minute of the slip", s.room.slipOf(2, 6), 41);
        // LATE is the later yes, whichever was said first.
        s.room.handing(0, EVE, DAN, 50);
        s.room.yes(1, DAN, 100);
        expect.same("yes at once", s.room.yes(1, EVE, 50), 2);
        expect.same("minute of the slip", s.room.slipOf(3, 6), 100);
    }

    private static void yesTells3(Expect expect) {
        Scene s = handed(expect);
        s.room.handing(0, EVE, DAN, 10);
        s.room.yes(1, DAN, 10);
        expect.same("it isn't TAKEN", s.room.yes(1, EVE, 10), 3);
        expect.same("it isn't TAKEN, LATE", s.room.yes(1, EVE, 100), 3);
        expect.same("slips", s.slips(), 2);
        expect.yes("it goes on, until one says no", s.room.no(1, EVE));
        Scene t = full(expect);
        t.room.handing(0, DAN, EVE, 0);
        t.room.yes(0, DAN, 0);
        expect.same("there are 400", t.room.yes(0, EVE, 0), 3);
        expect.same("slips", t.slips(), 400);
        t.stands(0, IN_HAND, DAN);
    }

    private static void yesToNoSuchHanding(Expect expect) {
        Scene s = handed(expect);
        for (int handing : new int[] {MIN, -1, 1, 59, 60, MAX}) {
            expect.same("yes to " + handing, s.room.yes(handing, DAN, 10), NONE);
        }
        expect.same("yes to 0", s.room.yes(0, DAN, 10), 0);
    }

    private static void yesToEnded(Expect expect) {
        Scene s = handed(expect);
        s.room.handing(0, DAN, EVE, 10);
        s.room.no(0, EVE);
        expect.same("yes behind a no", s.room.yes(0, DAN, 10), NONE);
        s.room.yes(1, DAN, 10);
        s.room.yes(1, EVE, 10);
        expect.same("yes behind the slip", s.room.yes(1, EVE, 10), NONE);
        expect.same("yes behind the slip", s.room.yes(1, DAN, 10), NONE);
        expect.same("slips", s.slips(), 3);
    }

    private static void yesOfAnotherHand(Expect expect) {
        Scene s = handed(expect);
        for (int hand : new int[] {ANN, BEN, CAT}) {
            expect.same("yes of " + hand, s.room.yes(0, hand, 10), NONE);
        }
        for (int hand : NO_HANDS) {
            expect.same("yes of " + hand, s.room.yes(0, hand, 10), NONE);
        }
        expect.same("yes of DAN", s.room.yes(0, DAN, 10), 0);
        expect.same("yes of CAT", s.room.yes(0, CAT, 10), NONE);
        expect.same("slips", s.slips(), 2);
    }

    private static void yesTwice(Expect expect) {
        for (int hand : new int[] {DAN, EVE}) {
            Scene s = handed(expect);
            expect.same("yes", s.room.yes(0, hand, 10), 0);
            expect.same("yes again", s.room.yes(0, hand, 100), NONE);
            expect.same("slips", s.slips(), 2);
            // The first minute counts: 10, not 100.
            expect.same("yes of the other", s.room.yes(0, DAN + EVE - hand, 40), 1);
        }
    }

    private static void yesAtAnotherMinute(Expect expect) {
        Scene s = handed(expect);
        for (int minute : new int[] {MIN, -1, 0, 9, 101, MAX}) {
            expect.same("yes at " + minute, s.room.yes(0, DAN, minute), NONE);
        }
        expect.same("yes at NOW", s.room.yes(0, DAN, 100), 0);
        for (int minute : new int[] {MIN, -1, 0, 9, 101, MAX}) {
            expect.same("yes at " + minute, s.room.yes(0, EVE, minute), NONE);
        }
        expect.same("yes at the HANDING's", s.room.yes(0, EVE, 10), 2);
    }

    private static void noEnds(Expect expect) {
        for (int hand : new int[] {DAN, EVE}) {
            Scene s = handed(expect);
            expect.yes("no", s.room.no(0, hand));
            expect.same("yes of the giver", s.room.yes(0, DAN, 10), NONE);
            expect.same("yes of the taker", s.room.yes(0, EVE, 10), NONE);
            Scene t = handed(expect);
            t.room.yes(0, DAN, 10);
            expect.yes("no behind a yes", t.room.no(0, hand));
            expect.same("yes of the other", t.room.yes(0, EVE, 10), NONE);
            expect.same("slips", t.slips(), 2);
        }
    }

    private static void noToNoSuchOne(Expect expect) {
        Scene s = handed(expect);
        for (int handing : new int[] {MIN, -1, 1, 59, 60, MAX}) {
            expect.no("no to " + handing, s.room.no(handing, DAN));
        }
        expect.yes("no to 0", s.room.no(0, DAN));
        Counted x = new Counted(expect);
        expect.no("no without any", x.no(0, 0));
    }

    private static void noToEnded(Expect expect) {
        Scene s = handed(expect);
        s.room.handing(0, DAN, EVE, 10);
        s.room.no(0, DAN);
        expect.no("no again", s.room.no(0, DAN));
        expect.no("no of the other", s.room.no(0, EVE));
        s.room.yes(1, DAN, 10);
        s.room.yes(1, EVE, 10);
        expect.no("no behind the slip", s.room.no(1, DAN));
        expect.no("no behind the slip", s.room.no(1, EVE));
        s.stands(0, IN_HAND, EVE);
    }

    private static void noOfAnotherHand(Expect expect) {
        Scene s = handed(expect);
        for (int hand : new int[] {ANN, BEN, CAT}) {
            expect.no("no of " + hand, s.room.no(0, hand));
        }
        for (int hand : NO_HANDS) {
            expect.no("no of " + hand, s.room.no(0, hand));
        }
        expect.same("it goes on", s.room.yes(0, DAN, 10), 0);
        expect.same("to its end", s.room.yes(0, EVE, 10), 1);
    }

    private static void counts(Expect expect) {
        Counted x = new Counted(expect);
        for (int what = 0; what <= 5; what++) {
            expect.same("about(" + what + ") at first", x.about(what), 0);
        }
        // All that a room can have takes more than 512 calls: one without slips, one without the rest.
        for (int i = 0; i <= 62; i++) {
            x.hand(true);
            x.shelf(true);
            x.thing(A_BAG, 0);
            x.handing(0, 0, 1, 0);
        }
        int[] most = {20, 8, 60, 0, 0, 60};
        for (int what = 0; what <= 5; what++) {
            expect.same("about(" + what + ") of a full room", x.about(what), most[what]);
        }
        Scene s = full(expect);
        int[] others = {5, 2, 1, 400, 10, 0};
        for (int what = 0; what <= 5; what++) {
            expect.same("about(" + what + ") with all slips", s.room.about(what), others[what]);
        }
    }

    private static void slipsOfTheImage(Expect expect) {
        Scene s = new Scene(expect);
        expect.same("without", s.room.about(6), NONE);
        s.room.freeze();
        expect.same("an IMAGE of none", s.room.about(6), 0);
        s.lay(A_THING, 0, 0);
        expect.same("it stays", s.room.about(6), 0);
        s.room.freeze();
        expect.same("an IMAGE of one", s.room.about(6), 1);
        Scene t = full(expect);
        t.room.freeze();
        expect.same("an IMAGE of 400", t.room.about(6), 400);
    }

    private static void countsOfOthers(Expect expect) {
        Scene s = full(expect);
        s.room.freeze();
        for (int what : new int[] {MIN, -2, -1, 7, 8, MAX}) {
            expect.same("about(" + what + ")", s.room.about(what), NONE);
        }
    }

    private static void slipAsWritten(Expect expect) {
        Scene s = new Scene(expect);
        int t = s.add(A_THING, 9);
        s.room.pass(5);
        // What doesn't count is kept as it was told.
        s.takenAt(3, IN, t, ANN, MIN, 0, DAN);
        s.room.pass(5);
        s.takenAt(10, WEIGH, t, MAX, -7, MIN, 9);
        int[][] slips = {{IN, t, ANN, MIN, 0, DAN, 3, 5}, {WEIGH, t, MAX, -7, MIN, 9, 10, 10}};
        for (int i = 0; i < 2; i++) {
            for (int what = 0; what <= 7; what++) {
                expect.same("slipOf(" + i + ", " + what + ")", s.room.slipOf(i, what), slips[i][what]);
            }
        }
    }

    private static void slipIsLate(Expect expect) {
        Scene s = new Scene(expect);
        int t = s.add(A_THING, 9);
        s.room.pass(20);
        int[] minutes = {5, 10, 10, 9, 10, 20, 19, 20};
        int[] late = {0, 0, 0, 1, 0, 0, 1, 0};
        for (int i = 0; i < minutes.length; i++) {
            if (i == 0) {
                s.takenAt(5, IN, t, ANN, NONE, 0, DAN);
            } else {
                s.takenAt(minutes[i], WEIGH, t, NONE, NONE, 0, 0);
            }
        }
        for (int i = 0; i < minutes.length; i++) {
            expect.same("slipOf(" + i + ", 8)", s.room.slipOf(i, 8), late[i]);
        }
        // Behind the first alone, and behind the one just ahead alone.
        Scene u = new Scene(expect);
        u.room.pass(20);
        u.takenAt(10, IN, u.add(A_THING, 0), ANN, NONE, 0, DAN);
        u.takenAt(9, IN, u.add(A_THING, 0), ANN, NONE, 1, DAN);
        u.takenAt(20, IN, u.add(A_THING, 0), ANN, NONE, 2, DAN);
        u.takenAt(19, IN, u.add(A_THING, 0), ANN, NONE, 3, DAN);
        for (int i = 0; i < 4; i++) {
            expect.same("slipOf(" + i + ", 8)", u.room.slipOf(i, 8), i % 2);
        }
    }

    private static void slipOfOthers(Expect expect) {
        Scene s = new Scene(expect);
        for (int what = 0; what <= 8; what++) {
            expect.same("slipOf(0, " + what + ") without slips", s.room.slipOf(0, what), NONE);
        }
        s.lay(A_THING, 0, 0);
        for (int what : new int[] {MIN, -1, 9, 10, MAX}) {
            expect.same("slipOf(0, " + what + ")", s.room.slipOf(0, what), NONE);
        }
        for (int i : new int[] {MIN, -1, 1, 399, 400, MAX}) {
            for (int what = 0; what <= 8; what++) {
                expect.same("slipOf(" + i + ", " + what + ")", s.room.slipOf(i, what), NONE);
            }
        }
    }
}
