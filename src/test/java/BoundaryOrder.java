/** The terms III: which slips are TAKEN, CHAINS, GAPS, BREAKS and HANDINGS. */
final class BoundaryOrder implements Words {
    private BoundaryOrder() {
    }

    static void tell(Document doc) {
        doc.section("Terms III");
        doc.holds("TAKEN: a slip that is written is TAKEN if, with it among all others, all can be DONE in their "
                + "ORDER.", BoundaryOrder::takenAmongAll);
        doc.holds("If not it is refused, by the first that can't be", BoundaryOrder::refusedByTheFirst);
        doc.holds("(its own number is that which it would have).", BoundaryOrder::itsOwnNumber);
        doc.holds("THE CHAIN of a thing: all slips of kinds 1 to 7, 18, 19 of it, in ORDER",
                BoundaryOrder::kindsOfTheChain);
        doc.holds("of a sample or copy: ahead of them the CHAIN of what it is of, as far as it is ahead of the slip "
                + "(11, 12) by which it came, then that slip.", BoundaryOrder::chainOfParts);
        doc.holds("A GAP: each slip 19 in it that isn't its first", BoundaryOrder::gapsAreSlips19);
        doc.holds("from the minute of the one ahead in the CHAIN to its own.", BoundaryOrder::gapFromTheOneAhead);
        doc.holds("A BREAK of a BAG: a slip 9 or 10 of it, whose c is not its seal as it stands then (NONE, if it is "
                + "OPEN).", BoundaryOrder::breaksOfABag);
        doc.holds("HANDINGS 0 .. 59: a thing, a giver, a taker, a minute", BoundaryOrder::handings);
        doc.holds("both say yes, each at a minute (that of the HANDING at least).", BoundaryOrder::yesAtItsMinute);
        doc.holds("When both have, a slip 3 is written", BoundaryOrder::slipWhenBothHave);
        doc.holds("of the HANDING's minute, if the later yes is 30 minutes behind it at most",
                BoundaryOrder::thirtyMinutesBehind);
        doc.holds("else of that minute (it is LATE).", BoundaryOrder::late);
        doc.holds("If that isn't TAKEN, the latter yes is as not said.", BoundaryOrder::latterAsNotSaid);
        doc.holds("One who says no ends it.", BoundaryOrder::noEndsIt);
        doc.holds("The constants: `NONE = -1`: None.", e -> e.same("NONE", CustodyRoom.NONE, -1));
    }

    private static void takenAmongAll(Expect expect) {
        Scene s = new Scene(expect);
        int t = s.lay(A_THING, 9, 0);
        int u = s.add(A_THING, 0);
        s.room.pass(100);
        s.takenAt(50, WEIGH, t, NONE, NONE, 0, 5);
        s.takenAt(60, IN, u, ANN, NONE, 1, DAN);
        // Late ones: each could be DONE by itself, but another told already couldn't.
        s.refusedAt(40, 1, WEIGH, t, NONE, NONE, 0, 5);
        s.refusedAt(59, 2, PUT, t, ANN, NONE, 1, 0);
        s.takenAt(40, WEIGH, t, NONE, NONE, 0, 4);
        s.takenAt(60, PUT, t, ANN, NONE, 2, 0);
        s.takenAt(59, PUT, t, ANN, NONE, 3, 0);
        s.stands(t, AT_PLACE, 2);
        s.is(t, 2, 0);
    }

    private static void refusedByTheFirst(Expect expect) {
        Scene s = new Scene(expect);
        int t = s.lay(A_THING, 9, 0);
        s.room.pass(100);
        s.takenAt(80, WEIGH, t, NONE, NONE, 0, 5);
        s.takenAt(60, WEIGH, t, NONE, NONE, 0, 4);
        // Neither 1 nor 2 could be: 2 is the first in ORDER.
        s.refusedAt(59, 2, WEIGH, t, NONE, NONE, 0, 9);
        s.refusedAt(59, 1, WEIGH, t, NONE, NONE, 0, 1);
        s.refusedAt(60, 3, WEIGH, t, NONE, NONE, 0, 9);
        s.refusedAt(60, 1, WEIGH, t, NONE, NONE, 0, 5);
        s.refusedAt(80, 3, WEIGH, t, NONE, NONE, 0, 1);
    }

    private static void itsOwnNumber(Expect expect) {
        Scene s = new Scene(expect);
        int t = s.add(A_THING, 9);
        s.refusedAt(0, 0, WEIGH, t, NONE, NONE, 0, 1);
        s.taken(IN, t, ANN, NONE, 0, DAN);
        s.refusedAt(0, 1, WEIGH, t, NONE, NONE, 0, 10);
        s.refusedAt(0, 1, WEIGH, t, NONE, NONE, 0, 11);
        s.fill(t, 399);
        s.refusedAt(0, 399, WEIGH, t, NONE, NONE, 0, 10);
    }

    private static void kindsOfTheChain(Expect expect) {
        for (int kind = IN; kind <= FOUND; kind++) {
            Scene s = new Scene(expect);
            int[] x = s.ready(kind);
            int length = 0;
            while (length < 10 && s.room.chain(x[1], length) != NONE) {
                length++;
            }
            int number = s.taken(kind, x[1], x[2], x[3], x[4], x[5]);
            boolean inChain = kind <= FROM || kind >= DESTROYED;
            expect.same("chain behind kind " + kind, s.room.chain(x[1], length), inChain ? number : NONE);
            if (kind == INTO) {
                s.chainIs(x[4], 1);
            }
        }
        Scene s = new Scene(expect);
        int t = s.lay(A_THING, 0, 0);
        s.room.pass(10);
        s.takenAt(9, PUT, t, ANN, NONE, 1, 0);
        s.takenAt(8, PUT, t, ANN, NONE, 2, 0);
        s.takenAt(9, PUT, t, ANN, NONE, 3, 0);
        s.chainIs(t, 0, 2, 1, 3);
    }

    private static void chainOfParts(Expect expect) {
        Scene s = new Scene(expect);
        int t = s.lay(A_THING, 9, 0);
        int sample = s.add(A_SAMPLE, 0);
        int copy = s.add(A_COPY, 0);
        int never = s.add(A_COPY, 0);
        s.room.pass(100);
        s.takenAt(10, PART, t, ANN, NONE, sample, 2);
        s.takenAt(20, BACK, sample, ANN, NONE, 1, ANN);
        s.takenAt(30, COPY, sample, ANN, NONE, copy, 0);
        s.takenAt(40, PUT, sample, ANN, NONE, 2, 0);
        s.takenAt(50, HAND, copy, NONE, NONE, ANN, DAN);
        s.takenAt(10, PUT, t, ANN, NONE, 3, 0);
        s.takenAt(9, PUT, t, ANN, NONE, 4, 0);
        s.takenAt(30, PUT, sample, ANN, NONE, 5, 0);
        s.takenAt(29, PUT, sample, ANN, NONE, 6, 0);
        s.chainIs(t, 0, 7, 6);
        s.chainIs(sample, 0, 7, 1, 2, 9, 8, 4);
        s.chainIs(copy, 0, 7, 1, 2, 9, 3, 5);
        s.chainIs(never);
    }

    private static void gapsAreSlips19(Expect expect) {
        for (int kind = OUT; kind <= FOUND; kind++) {
            Scene s = new Scene(expect);
            int[] x = s.ready(kind);
            s.gapIs(x[1], 0);
            int number = s.taken(kind, x[1], x[2], x[3], x[4], x[5]);
            if (kind == FOUND) {
                s.gapIs(x[1], 0, 0, 0, number - 1, number);
                s.gapIs(x[1], 1);
            } else {
                s.gapIs(x[1], 0);
            }
        }
        Scene s = new Scene(expect);
        int t = s.lay(A_THING, 9, 0);
        s.taken(FOUND, t, NONE, NONE, 1, NONE);
        s.taken(FOUND, t, NONE, NONE, NONE, DAN);
        int sample = s.draw(A_SAMPLE, t);
        s.taken(FOUND, t, NONE, NONE, 2, NONE);
        s.taken(FOUND, sample, NONE, NONE, 3, NONE);
        s.gapIs(t, 0, 0, 0, 0, 1);
        s.gapIs(t, 1, 0, 0, 1, 2);
        s.gapIs(t, 2, 0, 0, 2, 4);
        s.gapIs(t, 3);
        s.gapIs(sample, 1, 0, 0, 1, 2);
        s.gapIs(sample, 2, 0, 0, 3, 5);
        s.gapIs(sample, 3);
    }

    private static void gapFromTheOneAhead(Expect expect) {
        Scene s = new Scene(expect);
        int t = s.lay(A_THING, 9, 0);
        s.room.pass(100);
        s.takenAt(90, FOUND, t, NONE, NONE, 1, NONE);
        s.gapIs(t, 0, 0, 90, 0, 1);
        // What isn't of the CHAIN doesn't count; a late one that is does, up to the minute itself.
        s.takenAt(80, WEIGH, t, NONE, NONE, 0, 1);
        s.gapIs(t, 0, 0, 90, 0, 1);
        s.takenAt(50, PUT, t, ANN, NONE, 2, 0);
        s.gapIs(t, 0, 50, 90, 3, 1);
        s.takenAt(90, PUT, t, ANN, NONE, 3, 0);
        s.gapIs(t, 0, 50, 90, 3, 1);
        s.takenAt(90, FOUND, t, NONE, NONE, 4, NONE);
        s.gapIs(t, 1, 90, 90, 4, 5);
    }

    private static void breaksOfABag(Expect expect) {
        Scene s = new Scene(expect);
        int[] bags = {s.lay(A_BAG, 0, 0), s.lay(A_BAG, 0, 1), s.lay(A_BAG, 0, 2), s.lay(A_BAG, 0, 3)};
        for (int i = 0; i < bags.length; i++) {
            s.taken(LOOK, bags[i], NONE, NONE, NONE, 0);
            s.taken(CLOSE, bags[i], NONE, NONE, i, 0);
            s.taken(LOOK, bags[i], NONE, NONE, i, 0);
            expect.same("breaks of " + i, s.room.breaks(bags[i]), NONE);
        }
        int other = s.taken(UNSEAL, bags[0], NONE, NONE, 9, 0);
        expect.same("another seal seen as it was opened", s.room.breaks(bags[0]), other);
        int open = s.taken(LOOK, bags[1], NONE, NONE, NONE, 0);
        expect.same("sealed, seen OPEN", s.room.breaks(bags[1]), open);
        s.taken(UNSEAL, bags[2], NONE, NONE, 2, 0);
        s.taken(LOOK, bags[2], NONE, NONE, NONE, 0);
        expect.same("its seal seen as it was opened, then OPEN", s.room.breaks(bags[2]), NONE);
        int sealed = s.taken(LOOK, bags[2], NONE, NONE, 2, 0);
        expect.same("OPEN, its last seal seen", s.room.breaks(bags[2]), sealed);
        int far = s.taken(LOOK, bags[3], NONE, NONE, 999, 0);
        expect.same("a seal that there isn't", s.room.breaks(bags[3]), far);
    }

    /** Thing 0 is in DAN's hand from minute 0 on; NOW is 200. */
    private static Scene held(Expect expect) {
        Scene s = new Scene(expect);
        s.give(A_THING, 9, DAN);
        s.room.pass(200);
        return s;
    }

    private static void handings(Expect expect) {
        Scene s = held(expect);
        for (int i = 0; i < 60; i++) {
            expect.same("handing " + i, s.room.handing(0, DAN, EVE, i), i);
        }
        expect.same("handing 60", s.room.handing(0, DAN, EVE, 0), NONE);
        expect.same("yes to 60", s.room.yes(60, DAN, 100), NONE);
        expect.no("no to 60", s.room.no(60, DAN));
        expect.same("yes to 59", s.room.yes(59, DAN, 59), 0);
        expect.same("the other's", s.room.yes(59, EVE, 59), 1);
        int[] slip = {HAND, 0, NONE, NONE, DAN, EVE, 59, 200};
        for (int what = 0; what < slip.length; what++) {
            expect.same("slipOf(2, " + what + ")", s.room.slipOf(2, what), slip[what]);
        }
        expect.same("yes to 0", s.room.yes(0, DAN, 0), 0);
    }

    private static void yesAtItsMinute(Expect expect) {
        Scene s = held(expect);
        s.room.handing(0, DAN, EVE, 100);
        for (int minute : new int[] {MIN, -1, 0, 99}) {
            expect.same("yes of the giver at " + minute, s.room.yes(0, DAN, minute), NONE);
            expect.same("yes of the taker at " + minute, s.room.yes(0, EVE, minute), NONE);
        }
        expect.same("yes of the taker at 100", s.room.yes(0, EVE, 100), 0);
        expect.same("yes of the giver at 100", s.room.yes(0, DAN, 100), 1);
    }

    private static void slipWhenBothHave(Expect expect) {
        for (int first : new int[] {DAN, EVE}) {
            Scene s = held(expect);
            s.room.handing(0, DAN, EVE, 100);
            expect.same("slips ahead", s.slips(), 2);
            expect.same("yes of the first", s.room.yes(0, first, 110), 0);
            expect.same("slips behind one", s.slips(), 2);
            s.stands(0, IN_HAND, DAN);
            expect.same("yes of the first again", s.room.yes(0, first, 110), NONE);
            expect.same("yes of the other", s.room.yes(0, DAN + EVE - first, 110), 1);
            expect.same("slips behind both", s.slips(), 3);
            expect.same("its kind", s.room.slipOf(2, 0), HAND);
            s.stands(0, IN_HAND, EVE);
        }
    }

    private static void thirtyMinutesBehind(Expect expect) {
        int[][] minutes = {{100, 100}, {130, 100}, {100, 130}, {130, 130}};
        for (int[] row : minutes) {
            Scene s = held(expect);
            s.room.handing(0, DAN, EVE, 100);
            expect.same("yes at " + row[0], s.room.yes(0, EVE, row[0]), 0);
            expect.same("yes at " + row[1], s.room.yes(0, DAN, row[1]), 1);
            expect.same("minute of the slip", s.room.slipOf(2, 6), 100);
            expect.same("in the taker's hand at 100", s.room.where(0, 100, 200, 1), EVE);
            expect.same("not at 99", s.room.where(0, 99, 200, 1), DAN);
        }
    }

    private static void late(Expect expect) {
        int[][] minutes = {{131, 100, 131}, {100, 131, 131}, {131, 140, 140}, {200, 131, 200}};
        for (int[] row : minutes) {
            Scene s = held(expect);
            s.room.handing(0, DAN, EVE, 100);
            expect.same("yes at " + row[0], s.room.yes(0, EVE, row[0]), 0);
            expect.same("yes at " + row[1], s.room.yes(0, DAN, row[1]), 2);
            expect.same("minute of the slip", s.room.slipOf(2, 6), row[2]);
            expect.same("in the taker's hand then", s.room.where(0, row[2], 200, 1), EVE);
            expect.same("not ahead", s.room.where(0, row[2] - 1, 200, 1), DAN);
        }
    }

    private static void latterAsNotSaid(Expect expect) {
        for (int first : new int[] {DAN, EVE}) {
            int latter = DAN + EVE - first;
            Scene s = held(expect);
            s.room.handing(0, EVE, DAN, 100);
            expect.same("yes of the first, the later by its minute", s.room.yes(0, first, 120), 0);
            expect.same("it isn't TAKEN", s.room.yes(0, latter, 110), 3);
            expect.same("slips", s.slips(), 2);
            expect.same("the first has said yes", s.room.yes(0, first, 120), NONE);
            s.takenAt(50, HAND, 0, NONE, NONE, DAN, EVE);
            expect.same("the latter says it anew, LATE", s.room.yes(0, latter, 131), 2);
            expect.same("minute of the slip", s.room.slipOf(3, 6), 131);
        }
    }

    private static void noEndsIt(Expect expect) {
        for (int hand : new int[] {DAN, EVE}) {
            Scene s = held(expect);
            s.room.handing(0, DAN, EVE, 100);
            s.room.handing(0, DAN, EVE, 100);
            expect.same("yes", s.room.yes(0, DAN, 100), 0);
            expect.yes("no", s.room.no(0, hand));
            expect.same("yes of the taker", s.room.yes(0, EVE, 100), NONE);
            expect.same("yes of the giver", s.room.yes(0, DAN, 100), NONE);
            expect.same("slips", s.slips(), 2);
            expect.same("the other HANDING goes on", s.room.yes(1, DAN, 100), 0);
            expect.same("to its end", s.room.yes(1, EVE, 100), 1);
        }
    }
}
