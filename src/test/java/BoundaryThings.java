/** The document's first part and the terms I: what there is in a room, and how much of it. */
final class BoundaryThings implements Words {
    private BoundaryThings() {
    }

    static void tell(Document doc) {
        doc.section("What it is");
        doc.tells("A room in which things are kept for courts: slips tell what was done with each, by whom, at which "
                + "minute; bags are sealed by numbers, parts are taken, orders keep or destroy; a slip may come late, "
                + "and is taken only if all that was told still could be done.");
        doc.holds("An object is used for at most 512 calls after it has been made; what later calls answer is free.",
                BoundaryThings::allOf512Calls);
        doc.section("Terms");
        doc.tells("Where each thing was at each minute can be asked, also as it was known then; chains of hands and "
                + "places, the gaps in them, seals that do not follow are told; a row of slips can be altered and "
                + "checked.");
        doc.section("Terms I");
        doc.holds("HANDS 0 .. 19", BoundaryThings::hands);
        doc.holds("some of them KEEPERS", BoundaryThings::someKeepers);
        doc.holds("SHELVES 0 .. 7", BoundaryThings::shelves);
        doc.holds("some COLD", BoundaryThings::someCold);
        doc.holds("of 12 PLACES each: number 12 * shelf + place", BoundaryThings::twelvePlaces);
        doc.holds("SEALS: rows 0 .. 5", BoundaryThings::sealRows);
        doc.holds("each MISSING (at first)", BoundaryThings::missingAtFirst);
        doc.holds("or of so many numbers (0 .. 50)", BoundaryThings::soManyNumbers);
        doc.holds("100 * row + 0, 1, ..; those are GIVEN OUT.", BoundaryThings::givenOut);
        doc.holds("THINGS 0 .. 59", BoundaryThings::things);
        doc.holds("each of a KIND: 0 a thing, 1 a bag, 2 a sample, 3 a copy", BoundaryThings::kinds);
        doc.holds("4 a cold bag (it lies on COLD shelves alone)", BoundaryThings::coldBagLies);
        doc.holds("5 a money bag (where it, or what goes into or out of it, needs a KEEPER, it needs two)",
                BoundaryThings::moneyBagNeedsTwo);
        doc.holds("with a weight (of samples and copies 0 at first).", BoundaryThings::weights);
        doc.holds("Kinds 1, 4, 5 are BAGS.", BoundaryThings::bags);
        doc.holds("DAY of a minute: it by 1440, cut.", BoundaryThings::dayIsCut);
        doc.holds("NOW is a minute, 0 at first, which only rises.", BoundaryThings::nowOnlyRises);
        doc.holds("SLIPS 0 .. 399, numbered as they are written", BoundaryThings::slipNumbers);
        doc.holds("each has a minute (not above NOW as it is written) and the minute at which it was written.",
                BoundaryThings::minuteNotAboveNow);
        doc.holds("Their ORDER: by minute, then number.", BoundaryThings::orderByMinuteThenNumber);
    }

    private static void allOf512Calls(Expect expect) {
        Counted x = new Counted(expect);
        x.hand(true);
        x.shelf(false);
        x.thing(0, 5);
        x.pass(9);
        for (int n = 0; n < 400; n++) {
            expect.same("slip", n == 0 ? x.slip(1, 0, 0, NONE, 0, 0, 0) : x.slip(13, 0, 0, 0, 0, 0, 9), n);
        }
        for (int call = 405; call < 511; call++) {
            expect.same("call " + call, x.where(0, 9, 9, 2), 5);
        }
        expect.same("call 511", x.chain(0, 0), 0);
        expect.same("call 512", x.about(3), 400);
    }

    private static void hands(Expect expect) {
        Counted x = new Counted(expect);
        for (int i = 0; i < 20; i++) {
            expect.same("hand " + i, x.hand(true), i);
        }
        expect.same("hand 20", x.hand(true), NONE);
        x.shelf(false);
        x.thing(0, 5);
        expect.same("IN by hand 20", x.slip(1, 0, 20, NONE, 0, 0, 0), NONE);
        expect.same("IN from hand 20", x.slip(1, 0, 0, NONE, 0, 20, 0), NONE);
        expect.same("IN by hand -1", x.slip(1, 0, -1, NONE, 0, 0, 0), NONE);
        expect.same("IN by hand 19 from hand 19", x.slip(1, 0, 19, NONE, 0, 19, 0), 0);
        expect.same("OUT to hand 20", x.slip(2, 0, 0, NONE, 20, 0, 0), NONE);
        expect.same("OUT to hand 19", x.slip(2, 0, 0, NONE, 19, 0, 0), 1);
        expect.same("HAND from 19 to 20", x.slip(3, 0, 0, 0, 19, 20, 0), NONE);
        expect.same("HAND from 19 to 0", x.slip(3, 0, 0, 0, 19, 0, 0), 2);
    }

    private static void someKeepers(Expect expect) {
        Counted x = new Counted(expect);
        for (int i = 0; i < 20; i++) {
            x.hand(i == 0 || i == 7 || i == 19);
        }
        x.shelf(false);
        for (int i = 0; i < 20; i++) {
            int t = x.thing(0, 0);
            boolean taken = x.slip(1, t, i, NONE, x.about(3), 0, 0) != NONE;
            expect.same("IN by hand " + i, taken ? 1 : 0, i == 0 || i == 7 || i == 19 ? 1 : 0);
        }
    }

    private static void shelves(Expect expect) {
        Counted x = new Counted(expect);
        x.hand(true);
        x.thing(0, 0);
        expect.same("IN without shelves", x.slip(1, 0, 0, NONE, 0, 0, 0), NONE);
        for (int i = 0; i < 8; i++) {
            expect.same("shelf " + i, x.shelf(false), i);
        }
        expect.same("shelf 8", x.shelf(false), NONE);
        expect.same("IN to a place of shelf 8", x.slip(1, 0, 0, NONE, 96, 0, 0), NONE);
        expect.same("IN to the last place of shelf 7", x.slip(1, 0, 0, NONE, 95, 0, 0), 0);
        expect.same("PUT to the first place of shelf 0", x.slip(5, 0, 0, NONE, 0, 0, 0), 1);
        expect.same("its place", x.where(0, 0, 0, 1), 0);
    }

    private static void someCold(Expect expect) {
        Counted x = new Counted(expect);
        x.hand(true);
        for (int i = 0; i < 8; i++) {
            x.shelf(i % 3 == 0);
            int bag = x.thing(4, 0);
            boolean taken = x.slip(1, bag, 0, NONE, 12 * i, 0, 0) != NONE;
            expect.same("a cold bag on shelf " + i, taken ? 1 : 0, i % 3 == 0 ? 1 : 0);
        }
    }

    private static void twelvePlaces(Expect expect) {
        Counted x = new Counted(expect);
        x.hand(true);
        x.shelf(false);
        x.thing(0, 0);
        x.thing(4, 0);
        expect.same("IN to 12 of one shelf", x.slip(1, 0, 0, NONE, 12, 0, 0), NONE);
        expect.same("IN to -1", x.slip(1, 0, 0, NONE, -1, 0, 0), NONE);
        expect.same("IN to 11 of one shelf", x.slip(1, 0, 0, NONE, 11, 0, 0), 0);
        x.shelf(true);
        x.shelf(false);
        expect.same("11 is on shelf 0, which isn't COLD", x.slip(1, 1, 0, NONE, 10, 0, 0), NONE);
        expect.same("12 is on shelf 1, which is", x.slip(1, 1, 0, NONE, 12, 0, 0), 1);
        expect.same("so is 23", x.slip(5, 1, 0, NONE, 23, 0, 0), 2);
        expect.same("24 is on shelf 2, which isn't", x.slip(5, 1, 0, NONE, 24, 0, 0), NONE);
        expect.same("35 is a place of shelf 2", x.slip(5, 0, 0, NONE, 35, 0, 0), 3);
        expect.same("36 is none", x.slip(5, 0, 0, NONE, 36, 0, 0), NONE);
    }

    private static void sealRows(Expect expect) {
        Scene s = new Scene(expect);
        int first = s.lay(A_BAG, 0, 0);
        int last = s.lay(A_BAG, 0, 1);
        for (int row : new int[] {-1, -2, 6, MIN, MAX}) {
            expect.no("seals of row " + row, s.room.seals(row, 50));
        }
        expect.yes("seals of row 5", s.room.seals(5, 50));
        s.refused(CLOSE, first, NONE, NONE, 600, 0);
        s.refused(CLOSE, first, NONE, NONE, -100, 0);
        s.taken(CLOSE, first, NONE, NONE, 0, 0);
        s.taken(CLOSE, last, NONE, NONE, 549, 0);
        s.is(last, 3, 549);
    }

    private static void missingAtFirst(Expect expect) {
        Counted x = new Counted(expect);
        x.hand(true);
        x.shelf(false);
        x.thing(1, 0);
        x.slip(1, 0, 0, NONE, 0, 0, 0);
        for (int row = 0; row < 6; row++) {
            expect.same("CLOSE by number 0 of row " + row, x.slip(8, 0, 0, 0, 100 * row, 0, 0), NONE);
        }
    }

    private static void soManyNumbers(Expect expect) {
        Scene s = new Scene(expect);
        int bag = s.lay(A_BAG, 0, 0);
        int other = s.lay(A_BAG, 0, 1);
        expect.yes("seals(1, 0)", s.room.seals(1, 0));
        s.refused(CLOSE, bag, NONE, NONE, 100, 0);
        expect.no("seals(1, 51)", s.room.seals(1, 51));
        s.refused(CLOSE, bag, NONE, NONE, 100, 0);
        expect.yes("seals(1, 1)", s.room.seals(1, 1));
        s.refused(CLOSE, bag, NONE, NONE, 101, 0);
        s.taken(CLOSE, bag, NONE, NONE, 100, 0);
        expect.yes("seals(1, 50)", s.room.seals(1, 50));
        s.refused(CLOSE, other, NONE, NONE, 150, 0);
        s.taken(CLOSE, other, NONE, NONE, 149, 0);
    }

    private static void givenOut(Expect expect) {
        Scene s = new Scene(expect);
        int bag = s.lay(A_BAG, 0, 0);
        s.room.seals(2, 50);
        // Row 1 is MISSING, row 2 has all its 50: a number beyond a row's last is of no other row.
        for (int seal : new int[] {10, 50, 99, 100, 149, 199, 250, 299, -1, MIN, MAX}) {
            s.refused(CLOSE, bag, NONE, NONE, seal, 0);
        }
        for (int seal : new int[] {0, 9, 200, 249}) {
            s.taken(CLOSE, bag, NONE, NONE, seal, 0);
            s.is(bag, 3, seal);
            s.taken(UNSEAL, bag, NONE, NONE, seal, 0);
        }
    }

    private static void things(Expect expect) {
        Scene s = new Scene(expect);
        for (int i = 0; i < 60; i++) {
            expect.same("thing " + i, s.add(i == 0 || i == 59 ? A_BAG : A_THING, i), i);
        }
        expect.same("thing 60", s.add(A_THING, 0), NONE);
        s.refusedBy(3, 0, IN, 60, ANN, NONE, 0, DAN);
        s.taken(IN, 59, ANN, NONE, 0, DAN);
        s.taken(IN, 0, ANN, NONE, 1, DAN);
        s.refused(INTO, 0, ANN, NONE, 60, 0);
        s.taken(INTO, 0, ANN, NONE, 59, 0);
        s.stands(0, IN_BAG, 59);
        s.is(59, 10, 1);
        s.taken(FROM, 0, ANN, NONE, 1, 0);
        s.taken(INTO, 59, ANN, NONE, 0, 0);
        s.stands(59, IN_BAG, 0);
    }

    private static void kinds(Expect expect) {
        Scene s = new Scene(expect);
        int[] made = new int[6];
        for (int kind = 0; kind < 6; kind++) {
            made[kind] = s.add(kind, 0);
        }
        expect.same("a thing of KIND -1", s.add(-1, 0), NONE);
        expect.same("a thing of KIND 6", s.add(6, 0), NONE);
        int t = s.lay(A_THING, 9, 0);
        for (int kind = 0; kind < 6; kind++) {
            if (kind != A_SAMPLE) {
                s.refused(PART, t, ANN, BEN, made[kind], 1);
            }
            if (kind != A_COPY) {
                s.refused(COPY, t, ANN, BEN, made[kind], 0);
            }
        }
        s.taken(PART, t, ANN, NONE, made[A_SAMPLE], 1);
        s.taken(COPY, t, ANN, NONE, made[A_COPY], 0);
    }

    private static void coldBagLies(Expect expect) {
        Scene s = new Scene(expect);
        int cold = s.add(A_COLD_BAG, 0);
        s.refused(IN, cold, ANN, NONE, 11, DAN);
        s.taken(IN, cold, ANN, NONE, 12, DAN);
        s.refused(PUT, cold, ANN, NONE, 0, 0);
        // What lies elsewhere is free of that: the bag in a hand or in a bag, other bags on any shelf.
        s.taken(OUT, cold, ANN, NONE, DAN, 0);
        s.lay(A_BAG, 0, 13);
        s.lay(A_MONEY_BAG, 0, 11);
    }

    private static void moneyBagNeedsTwo(Expect expect) {
        Scene s = new Scene(expect);
        s.pad();
        int money = s.add(A_MONEY_BAG, 9);
        int t = s.lay(A_THING, 0, 0);
        int bag = s.lay(A_BAG, 0, 1);
        onlyByTwo(s, IN, money, 2, DAN);
        onlyByTwo(s, OUT, money, DAN, 0);
        onlyByTwo(s, BACK, money, 2, DAN);
        onlyByTwo(s, PUT, money, 3, 0);
        onlyByTwo(s, INTO, t, money, 0);
        onlyByTwo(s, FROM, t, 0, 0);
        onlyByTwo(s, INTO, money, bag, 0);
        onlyByTwo(s, FROM, money, 2, 0);
        onlyByTwo(s, CLOSE, money, 0, 0);
        onlyByTwo(s, UNSEAL, money, 0, 0);
        onlyByTwo(s, PART, money, s.add(A_SAMPLE, 0), 1);
        onlyByTwo(s, COPY, money, s.add(A_COPY, 0), 0);
        // Where no KEEPER is needed two aren't either, nor for a bag that has a money bag in it.
        s.taken(LOOK, money, NONE, NONE, NONE, 0);
        s.taken(WEIGH, money, NONE, NONE, 0, 1);
        s.taken(KEEP, money, NONE, NONE, 0, 0);
        s.taken(FOUND, money, NONE, NONE, NONE, DAN);
        s.taken(HAND, money, NONE, NONE, DAN, EVE);
        s.taken(BACK, money, ANN, BEN, 2, EVE);
        s.taken(INTO, money, ANN, BEN, bag, 0);
        s.taken(PUT, bag, ANN, NONE, 4, 0);
    }

    private static void onlyByTwo(Scene s, int kind, int t, int c, int d) {
        s.refused(kind, t, ANN, NONE, c, d);
        s.refused(kind, t, ANN, ANN, c, d);
        s.refused(kind, t, ANN, DAN, c, d);
        s.refused(kind, t, DAN, ANN, c, d);
        s.refused(kind, t, NONE, NONE, c, d);
        s.taken(kind, t, ANN, BEN, c, d);
    }

    private static void weights(Expect expect) {
        Scene s = new Scene(expect);
        int heavy = s.lay(A_THING, 1000000, 0);
        int light = s.add(A_BAG, 0);
        int sample = s.add(A_SAMPLE, 0);
        int copy = s.add(A_COPY, 0);
        s.is(heavy, 2, 1000000);
        s.is(light, 2, 0);
        s.is(sample, 2, 0);
        s.is(copy, 2, 0);
        s.taken(PART, heavy, ANN, NONE, sample, 1000000);
        s.taken(COPY, heavy, ANN, NONE, copy, 7);
        s.is(heavy, 2, 0);
        s.is(sample, 2, 1000000);
        s.is(copy, 2, 0);
    }

    private static void bags(Expect expect) {
        Scene s = new Scene(expect);
        int t = s.lay(A_THING, 9, 0);
        int[] made = {s.lay(A_THING, 0, 1), s.lay(A_BAG, 0, 2), s.draw(A_SAMPLE, t),
            s.draw(A_COPY, t), s.lay(A_COLD_BAG, 0, 12), s.lay(A_MONEY_BAG, 0, 3)};
        s.taken(BACK, made[A_SAMPLE], ANN, NONE, 4, ANN);
        s.taken(BACK, made[A_COPY], ANN, NONE, 5, ANN);
        for (int kind : new int[] {A_THING, A_SAMPLE, A_COPY}) {
            s.refused(INTO, t, ANN, BEN, made[kind], 0);
            s.refused(CLOSE, made[kind], ANN, BEN, kind, 0);
            s.refused(LOOK, made[kind], ANN, BEN, NONE, 0);
        }
        for (int kind : new int[] {A_BAG, A_COLD_BAG, A_MONEY_BAG}) {
            s.taken(INTO, t, ANN, BEN, made[kind], 0);
            s.taken(CLOSE, made[kind], ANN, BEN, kind, 0);
            s.taken(LOOK, made[kind], ANN, BEN, kind, 0);
            s.taken(UNSEAL, made[kind], ANN, BEN, kind, 0);
            s.taken(FROM, t, ANN, BEN, 0, 0);
        }
    }

    private static void dayIsCut(Expect expect) {
        Scene s = new Scene(expect);
        int[] days = {0, 1, 69};
        for (int day : days) {
            int t = s.lay(A_THING, 0, day % 7);
            s.taken(DESTROY, t, NONE, NONE, 0, 0);
            s.taken(KEEP, t, NONE, NONE, day, 0);
        }
        s.room.pass(100000);
        s.takenAt(0, DESTROYED, 0, ANN, BEN, CAT, 0);
        s.refusedAt(1439, s.slips(), DESTROYED, 1, ANN, BEN, CAT, 0);
        s.takenAt(1440, DESTROYED, 1, ANN, BEN, CAT, 0);
        s.refusedAt(99359, s.slips(), DESTROYED, 2, ANN, BEN, CAT, 0);
        s.takenAt(99360, DESTROYED, 2, ANN, BEN, CAT, 0);
    }

    private static void nowOnlyRises(Expect expect) {
        Counted x = new Counted(expect);
        expect.same("NOW at first", x.about(4), 0);
        expect.same("pass(0)", x.pass(0), 0);
        expect.same("pass(1)", x.pass(1), 1);
        expect.same("pass(-1)", x.pass(-1), NONE);
        expect.same("pass(least)", x.pass(MIN), NONE);
        expect.same("NOW", x.about(4), 1);
        x.freeze();
        x.pass(5);
        x.thaw();
        expect.same("NOW behind thaw", x.about(4), 6);
    }

    private static void slipNumbers(Expect expect) {
        Scene s = new Scene(expect);
        int t = s.lay(A_THING, 0, 0);
        s.fill(t, 400);
        s.refusedBy(1, 0, WEIGH, t, NONE, NONE, 0, 0);
        expect.same("kind of slip 399", s.room.slipOf(399, 0), WEIGH);
        expect.same("kind of slip 400", s.room.slipOf(400, 0), NONE);
    }

    private static void minuteNotAboveNow(Expect expect) {
        Scene s = new Scene(expect);
        int t = s.lay(A_THING, 0, 0);
        s.room.pass(10);
        s.refusedBy(4, 11, WEIGH, t, NONE, NONE, 0, 0);
        s.takenAt(10, WEIGH, t, NONE, NONE, 0, 0);
        s.takenAt(0, WEIGH, t, NONE, NONE, 0, 0);
        s.room.pass(1);
        s.takenAt(11, WEIGH, t, NONE, NONE, 0, 0);
        int[][] minutes = {{0, 0}, {10, 10}, {0, 10}, {11, 11}};
        for (int i = 0; i < minutes.length; i++) {
            expect.same("minute of slip " + i, s.room.slipOf(i, 6), minutes[i][0]);
            expect.same("slip " + i + " was written", s.room.slipOf(i, 7), minutes[i][1]);
        }
    }

    private static void orderByMinuteThenNumber(Expect expect) {
        Scene s = new Scene(expect);
        int t = s.add(A_THING, 0);
        s.room.pass(20);
        s.takenAt(10, IN, t, ANN, NONE, 0, DAN);
        s.takenAt(20, PUT, t, ANN, NONE, 1, 0);
        s.takenAt(10, PUT, t, ANN, NONE, 2, 0);
        s.takenAt(20, PUT, t, ANN, NONE, 3, 0);
        s.takenAt(19, PUT, t, ANN, NONE, 4, 0);
        s.takenAt(11, PUT, t, ANN, NONE, 5, 0);
        s.takenAt(10, PUT, t, ANN, NONE, 6, 0);
        s.refusedAt(9, s.slips(), PUT, t, ANN, NONE, 7, 0);
        s.chainIs(t, 0, 2, 6, 5, 4, 1, 3);
        s.stands(t, AT_PLACE, 3);
    }
}
