/** Promises 14 to 22: where things are, CHAINS, GAPS, BREAKS, what is due, the IMAGE. */
final class BoundaryAnswers implements Words {
    private BoundaryAnswers() {
    }

    static void tell(Document doc) {
        tellOfWhere(doc);
        tellOfRows(doc);
        tellOfTheImage(doc);
    }

    private static void tellOfWhere(Document doc) {
        doc.section("Promise 14");
        doc.holds("Where a thing is behind all slips up to a minute", BoundaryAnswers::upToAMinute);
        doc.holds("as known at a minute (those written till then", BoundaryAnswers::asKnown);
        doc.holds("one that can't be DONE without others, which can be behind thaw() of an altered IMAGE alone, is "
                + "left out)", BoundaryAnswers::leftOut);
        doc.holds("0 how (0 nowhere yet, 1 a PLACE, 2 a hand, 3 a BAG, 4 gone)", BoundaryAnswers::how);
        doc.holds("1 its number", BoundaryAnswers::itsNumber);
        doc.holds("2 its weight", BoundaryAnswers::itsWeight);
        doc.holds("3 its seal (NONE if OPEN, or no BAG)", BoundaryAnswers::itsSeal);
        doc.holds("4, 5 as 0, 1 of the outermost BAG around it (itself, if it is in none)",
                BoundaryAnswers::outermost);
        doc.holds("6 the day on which it is due (NONE: it isn't)", BoundaryAnswers::dueDay);
        doc.holds("7 until which it is to be kept (NONE)", BoundaryAnswers::keptUntil);
        doc.holds("8 whether it is to be destroyed", BoundaryAnswers::toBeDestroyed);
        doc.holds("9 how many TRIALS go on for it", BoundaryAnswers::howManyTrials);
        doc.holds("10 how many things it has", BoundaryAnswers::howManyThings);
        doc.holds("11 of what it is (NONE).", BoundaryAnswers::ofWhat);
        doc.holds("(1 and 5 NONE where it is nowhere or gone; of a thing that is gone the others as last.)",
                BoundaryAnswers::nowhereOrGone);
        doc.holds("NONE for others.", BoundaryAnswers::whereOfOthers);
    }

    private static void tellOfRows(Document doc) {
        doc.section("Promise 15");
        doc.holds("Slip i of a thing's CHAIN.", BoundaryAnswers::slipOfTheChain);
        doc.holds("NONE if there is none such.", BoundaryAnswers::noneInTheChain);
        doc.section("Promise 16");
        doc.holds("Of GAP i of a thing: 0 from, 1 to which minute, 2, 3 the slips at both ends.",
                BoundaryAnswers::endsOfAGap);
        doc.holds("NONE for others.", BoundaryAnswers::gapOfOthers);
        doc.section("Promise 17");
        doc.holds("The first BREAK (in ORDER) of a BAG: the slip.", BoundaryAnswers::firstBreak);
        doc.holds("NONE without, or if it is no BAG.", BoundaryAnswers::withoutBreak);
        doc.section("Promise 18");
        doc.holds("Thing i of those that are KEPT now (behind all slips), and due on a day, or to be kept until it: by "
                + "number.", BoundaryAnswers::dueByNumber);
        doc.holds("NONE if there is none such.", BoundaryAnswers::noneDue);
    }

    private static void tellOfTheImage(Document doc) {
        doc.section("Promise 19");
        doc.holds("All slips are the IMAGE: how many.", BoundaryAnswers::howManyFrozen);
        doc.section("Promise 20");
        doc.holds("Of slip i of the IMAGE 0 its kind, 1 its thing, 2 to 5 a to d, 6 its minute becomes v: true.",
                BoundaryAnswers::becomesV);
        doc.holds("False: there is none such", BoundaryAnswers::alterNoneSuch);
        doc.holds("or no IMAGE.", BoundaryAnswers::alterWithoutImage);
        doc.section("Promise 21");
        doc.holds("The first slip of the IMAGE, in its ORDER, that can't be DONE", BoundaryAnswers::firstInItsOrder);
        doc.holds("(no such kind, thing", BoundaryAnswers::checkKindAndThing);
        doc.holds("or a minute that is below 0 or above the one at which it was written, too).",
                BoundaryAnswers::checkMinute);
        doc.holds("NONE if all can", BoundaryAnswers::checkAllCan);
        doc.holds("-2 without an IMAGE.", BoundaryAnswers::checkWithoutImage);
        doc.section("Promise 22");
        doc.holds("The slips become those of the IMAGE (as written then): true.", BoundaryAnswers::slipsBecome);
        doc.holds("False: there is none", BoundaryAnswers::thawWithoutImage);
        doc.holds("or one of them can't be DONE.", BoundaryAnswers::thawOfUndone);
        doc.holds("(HANDINGS, seals' rows, hands, NOW stay.)", BoundaryAnswers::whatStays);
    }

    private static void upToAMinute(Expect expect) {
        Scene s = new Scene(expect);
        int t = s.add(A_THING, 9);
        s.room.pass(20);
        s.takenAt(0, IN, t, ANN, NONE, 0, DAN);
        s.takenAt(10, PUT, t, ANN, NONE, 1, 0);
        s.takenAt(10, PUT, t, ANN, NONE, 2, 0);
        s.takenAt(20, PUT, t, ANN, NONE, 3, 0);
        int[][] places = {{MIN, NONE}, {-1, NONE}, {0, 0}, {9, 0}, {10, 2}, {11, 2}, {19, 2}, {20, 3}, {21, 3},
            {MAX, 3}};
        for (int[] row : places) {
            expect.same("place at " + row[0], s.room.where(t, row[0], 20, 1), row[1]);
        }
    }

    private static void asKnown(Expect expect) {
        Scene s = new Scene(expect);
        int t = s.lay(A_THING, 9, 0);
        s.room.pass(10);
        s.takenAt(4, PUT, t, ANN, NONE, 1, 0);
        s.room.pass(10);
        s.takenAt(5, PUT, t, ANN, NONE, 2, 0);
        int[][] places = {{MIN, NONE}, {-1, NONE}, {0, 0}, {4, 0}, {9, 0}, {10, 1}, {19, 1}, {20, 2}, {21, 2},
            {MAX, 2}};
        for (int[] row : places) {
            expect.same("place at 5 as known at " + row[0], s.room.where(t, 5, row[0], 1), row[1]);
        }
        expect.same("place at 4 as known at 20", s.room.where(t, 4, 20, 1), 1);
    }

    private static void leftOut(Expect expect) {
        Scene s = new Scene(expect);
        int t = s.lay(A_THING, 9, 0);
        int u = s.add(A_THING, 9);
        s.room.pass(10);
        s.taken(WEIGH, t, NONE, NONE, 0, 1);
        s.taken(WEIGH, t, NONE, NONE, 0, 2);
        s.room.pass(10);
        s.taken(IN, u, ANN, NONE, 1, DAN);
        s.room.freeze();
        // Slip 1, written at 10, weighs u, which came in at 9 by slip 3, written at 20.
        s.room.alter(1, 1, u);
        s.room.alter(3, 6, 9);
        expect.yes("thaw", s.room.thaw());
        expect.same("u's weight, known at 20", s.room.where(u, 10, 20, 2), 8);
        expect.same("u is at a place, known at 20", s.room.where(u, 10, 20, 0), AT_PLACE);
        expect.same("known at 19 slip 1 is left out", s.room.where(u, 10, 19, 2), 9);
        expect.same("u is nowhere, known at 19", s.room.where(u, 10, 19, 0), NOWHERE);
        expect.same("what follows it is not left out", s.room.where(t, 10, 19, 2), 7);
        expect.same("nor what is ahead of it", s.room.where(t, 10, 19, 0), AT_PLACE);
    }

    private static void how(Expect expect) {
        Scene s = new Scene(expect);
        int t = s.add(A_THING, 9);
        int bag = s.lay(A_BAG, 9, 1);
        s.is(t, 0, NOWHERE);
        s.taken(IN, t, ANN, NONE, 0, DAN);
        s.is(t, 0, AT_PLACE);
        s.taken(OUT, t, ANN, NONE, DAN, 7);
        s.is(t, 0, IN_HAND);
        s.taken(BACK, t, ANN, NONE, 0, DAN);
        s.is(t, 0, AT_PLACE);
        s.taken(INTO, t, ANN, NONE, bag, 0);
        s.is(t, 0, IN_BAG);
        s.taken(FROM, t, ANN, NONE, 0, 0);
        s.is(t, 0, AT_PLACE);
        s.destroy(t);
        s.is(t, 0, GONE);
    }

    private static void itsNumber(Expect expect) {
        Scene s = new Scene(expect);
        int bag = s.lay(A_BAG, 0, 23);
        int t = s.lay(A_THING, 9, 0);
        s.is(bag, 1, 23);
        s.is(t, 1, 0);
        s.taken(INTO, t, ANN, NONE, bag, 0);
        s.is(t, 1, bag);
        s.taken(OUT, bag, ANN, NONE, EVE, 7);
        s.is(bag, 1, EVE);
        s.is(t, 1, bag);
        s.taken(FROM, t, ANN, NONE, 0, 0);
        s.is(t, 1, EVE);
        s.taken(HAND, t, NONE, NONE, EVE, ANN);
        s.is(t, 1, ANN);
    }

    private static void itsWeight(Expect expect) {
        Scene s = new Scene(expect);
        int t = s.add(A_THING, 1000000);
        int sample = s.add(A_SAMPLE, 0);
        s.is(t, 2, 1000000);
        s.is(sample, 2, 0);
        s.taken(IN, t, ANN, NONE, 0, DAN);
        s.taken(PART, t, ANN, NONE, sample, 999999);
        s.is(t, 2, 1);
        s.is(sample, 2, 999999);
        s.taken(WEIGH, sample, NONE, NONE, 0, 999999);
        s.is(sample, 2, 0);
        s.is(t, 2, 1);
        // What is in a bag adds nothing to it.
        int bag = s.lay(A_BAG, 5, 1);
        s.taken(INTO, t, ANN, NONE, bag, 0);
        s.is(bag, 2, 5);
    }

    private static void itsSeal(Expect expect) {
        Scene s = new Scene(expect);
        s.room.seals(5, 50);
        int t = s.lay(A_THING, 9, 0);
        int bag = s.add(A_BAG, 9);
        s.is(t, 3, NONE);
        s.is(bag, 3, NONE);
        s.taken(IN, bag, ANN, NONE, 1, DAN);
        s.is(bag, 3, NONE);
        s.taken(INTO, t, ANN, NONE, bag, 0);
        s.taken(CLOSE, bag, NONE, NONE, 0, 0);
        s.is(bag, 3, 0);
        s.is(t, 3, NONE);
        s.taken(UNSEAL, bag, NONE, NONE, 7, 0);
        s.is(bag, 3, NONE);
        s.taken(CLOSE, bag, NONE, NONE, 549, 0);
        s.is(bag, 3, 549);
    }

    private static void outermost(Expect expect) {
        Scene s = new Scene(expect);
        int t = s.add(A_THING, 9);
        s.is(t, 4, NOWHERE);
        s.is(t, 5, NONE);
        s.taken(IN, t, ANN, NONE, 0, DAN);
        s.is(t, 4, AT_PLACE);
        s.is(t, 5, 0);
        int inner = t;
        for (int i = 1; i <= 4; i++) {
            int bag = s.lay(A_BAG, 0, i);
            s.taken(INTO, inner, ANN, NONE, bag, 0);
            s.is(t, 4, AT_PLACE);
            s.is(t, 5, i);
            inner = bag;
        }
        s.taken(OUT, inner, ANN, NONE, EVE, 7);
        s.is(t, 4, IN_HAND);
        s.is(t, 5, EVE);
        s.is(inner, 4, IN_HAND);
        s.is(inner, 5, EVE);
    }

    private static void dueDay(Expect expect) {
        Scene s = new Scene(expect);
        int t = s.lay(A_THING, 9, 0);
        s.is(t, 6, NONE);
        s.taken(OUT, t, ANN, NONE, DAN, 0);
        s.is(t, 6, 0);
        s.taken(BACK, t, ANN, NONE, 0, DAN);
        s.is(t, 6, NONE);
        s.taken(OUT, t, ANN, NONE, DAN, 100000);
        s.is(t, 6, 100000);
        s.taken(HAND, t, NONE, NONE, DAN, EVE);
        s.is(t, 6, 100000);
        // FOUND isn't BACK: it is due still, until it goes OUT for another day.
        s.taken(FOUND, t, NONE, NONE, 0, NONE);
        s.is(t, 6, 100000);
        s.taken(OUT, t, ANN, NONE, DAN, 3);
        s.is(t, 6, 3);
    }

    private static void keptUntil(Expect expect) {
        Scene s = new Scene(expect);
        int t = s.lay(A_THING, 9, 0);
        int other = s.lay(A_THING, 9, 1);
        s.is(t, 7, NONE);
        for (int day : new int[] {0, 100000, 5}) {
            s.taken(KEEP, t, NONE, NONE, day, 0);
            s.is(t, 7, day);
        }
        s.is(other, 7, NONE);
    }

    private static void toBeDestroyed(Expect expect) {
        Scene s = new Scene(expect);
        int t = s.add(A_THING, 9);
        s.is(t, 8, 0);
        s.taken(IN, t, ANN, NONE, 0, DAN);
        s.is(t, 8, 0);
        s.room.pass(10);
        s.takenAt(5, DESTROY, t, NONE, NONE, 0, 0);
        s.is(t, 8, 1);
        expect.same("at 5 as known at 10", s.room.where(t, 5, 10, 8), 1);
        expect.same("at 4 as known at 10", s.room.where(t, 4, 10, 8), 0);
        expect.same("at 10 as known at 9", s.room.where(t, 10, 9, 8), 0);
    }

    private static void howManyTrials(Expect expect) {
        Scene s = new Scene(expect);
        int t = s.lay(A_THING, 9, 0);
        s.is(t, 9, 0);
        for (int c = 0; c <= 30; c++) {
            s.taken(TRIAL, t, NONE, NONE, c, 0);
            s.is(t, 9, c + 1);
        }
        s.taken(OVER, t, NONE, NONE, 30, 0);
        s.is(t, 9, 30);
        s.taken(OVER, t, NONE, NONE, 0, 0);
        s.is(t, 9, 29);
    }

    private static void howManyThings(Expect expect) {
        Scene s = new Scene(expect);
        int bag = s.lay(A_BAG, 9, 0);
        int outer = s.lay(A_BAG, 9, 1);
        s.is(bag, 10, 0);
        // Bag 0 hasn't what hand 0 or place 0 has.
        int held = s.give(A_THING, 9, bag);
        s.is(bag, 10, 0);
        s.draw(A_COPY, held);
        s.is(bag, 10, 0);
        int first = held + 2;
        for (int i = 1; i <= 8; i++) {
            s.taken(INTO, s.lay(A_THING, 0, 2), ANN, NONE, bag, 0);
            s.is(bag, 10, i);
        }
        s.taken(INTO, bag, ANN, NONE, outer, 0);
        s.is(outer, 10, 1);
        s.is(bag, 10, 8);
        s.taken(FOUND, first, NONE, NONE, 2, NONE);
        s.is(bag, 10, 7);
        s.is(first, 10, 0);
    }

    private static void ofWhat(Expect expect) {
        Scene s = new Scene(expect);
        int t = s.lay(A_THING, 9, 0);
        int never = s.add(A_SAMPLE, 0);
        int sample = s.draw(A_SAMPLE, t);
        int copy = s.draw(A_COPY, sample);
        s.is(t, 11, NONE);
        s.is(never, 11, NONE);
        s.is(sample, 11, t);
        s.is(copy, 11, sample);
    }

    private static void nowhereOrGone(Expect expect) {
        Scene s = new Scene(expect);
        int of = s.lay(A_THING, 9, 0);
        int bag = s.lay(A_BAG, 9, 1);
        int sample = s.draw(A_SAMPLE, of);
        int[] nowhere = {NOWHERE, NONE, 9, NONE, NOWHERE, NONE, NONE, NONE, 0, 0, 0, NONE};
        allIs(s, s.add(A_BAG, 9), nowhere);
        s.taken(BACK, sample, ANN, NONE, 2, ANN);
        s.taken(KEEP, sample, NONE, NONE, 0, 0);
        s.destroy(sample);
        allIs(s, sample, GONE, NONE, 1, NONE, GONE, NONE, NONE, 0, 1, 0, 0, of);
        s.taken(OUT, bag, ANN, NONE, DAN, 7);
        s.taken(FOUND, bag, NONE, NONE, 1, NONE);
        s.taken(CLOSE, bag, NONE, NONE, 5, 0);
        s.taken(WEIGH, bag, NONE, NONE, 0, 2);
        s.destroy(bag);
        allIs(s, bag, GONE, NONE, 7, 5, GONE, NONE, 7, NONE, 1, 0, 0, NONE);
    }

    private static void allIs(Scene s, int t, int... want) {
        for (int what = 0; what < want.length; what++) {
            s.is(t, what, want[what]);
        }
    }

    private static void whereOfOthers(Expect expect) {
        Scene s = new Scene(expect);
        expect.same("without things", s.room.where(0, 0, 0, 2), NONE);
        int t = s.lay(A_THING, 9, 0);
        for (int what : new int[] {MIN, -2, -1, 12, 13, MAX}) {
            s.is(t, what, NONE);
        }
        for (int thing : new int[] {MIN, -1, 1, 59, 60, MAX}) {
            for (int what = 0; what <= 11; what++) {
                s.is(thing, what, NONE);
            }
        }
    }

    private static void slipOfTheChain(Expect expect) {
        Scene s = new Scene(expect);
        int t = s.lay(A_THING, 9, 0);
        int u = s.lay(A_THING, 9, 1);
        s.room.pass(399);
        for (int n = 2; n < 400; n++) {
            int place = n % 2 == 0 ? 2 : 3;
            expect.same("PUT", s.room.slip(PUT, t, ANN, NONE, place, 0, n == 399 ? 1 : n), n);
        }
        // The longest there can be here, the last written being the second in ORDER.
        expect.same("chain(t, 0)", s.room.chain(t, 0), 0);
        expect.same("chain(t, 1)", s.room.chain(t, 1), 399);
        for (int i = 2; i < 399; i += 9) {
            expect.same("chain(t, " + i + ")", s.room.chain(t, i), i);
        }
        expect.same("chain(t, 398)", s.room.chain(t, 398), 398);
        expect.same("chain(t, 399)", s.room.chain(t, 399), NONE);
        s.chainIs(u, 1);
    }

    private static void noneInTheChain(Expect expect) {
        Scene s = new Scene(expect);
        int t = s.lay(A_THING, 9, 0);
        int never = s.add(A_BAG, 9);
        int sample = s.add(A_SAMPLE, 0);
        for (int i : new int[] {MIN, -2, -1, 1, 400, MAX}) {
            expect.same("chain(t, " + i + ")", s.room.chain(t, i), NONE);
        }
        s.chainIs(never);
        s.chainIs(sample);
        for (int thing : new int[] {MIN, -1, 3, 59, 60, MAX}) {
            expect.same("chain(" + thing + ", 0)", s.room.chain(thing, 0), NONE);
        }
        expect.same("chain(t, 0)", s.room.chain(t, 0), 0);
    }

    private static void endsOfAGap(Expect expect) {
        Scene s = new Scene(expect);
        int t = s.lay(A_THING, 9, 0);
        s.room.pass(50);
        s.takenAt(10, FOUND, t, NONE, NONE, NONE, DAN);
        s.takenAt(20, BACK, t, ANN, NONE, 1, DAN);
        s.takenAt(50, FOUND, t, NONE, NONE, 2, NONE);
        s.takenAt(30, FOUND, t, NONE, NONE, 3, NONE);
        s.gapIs(t, 0, 0, 10, 0, 1);
        s.gapIs(t, 1, 20, 30, 2, 4);
        s.gapIs(t, 2, 30, 50, 4, 3);
        s.gapIs(t, 3);
    }

    private static void gapOfOthers(Expect expect) {
        Scene s = new Scene(expect);
        int t = s.lay(A_THING, 9, 0);
        int never = s.add(A_THING, 9);
        s.gapIs(t, 0);
        s.taken(FOUND, t, NONE, NONE, 1, NONE);
        for (int i : new int[] {MIN, -2, -1, 1, 2, 400, MAX}) {
            s.gapIs(t, i);
        }
        for (int what : new int[] {MIN, -1, 4, 5, MAX}) {
            expect.same("gap(t, 0, " + what + ")", s.room.gap(t, 0, what), NONE);
        }
        s.gapIs(never, 0);
        for (int thing : new int[] {MIN, -1, 2, 59, 60, MAX}) {
            s.gapIs(thing, 0);
        }
        s.gapIs(t, 0, 0, 0, 0, 1);
    }

    private static void firstBreak(Expect expect) {
        Scene s = new Scene(expect);
        int bag = s.lay(A_BAG, 0, 0);
        int other = s.lay(A_BAG, 0, 1);
        s.room.pass(100);
        int last = s.takenAt(90, LOOK, bag, NONE, NONE, 3, 0);
        expect.same("one", s.room.breaks(bag), last);
        int second = s.takenAt(80, LOOK, bag, NONE, NONE, 3, 0);
        expect.same("an earlier one", s.room.breaks(bag), second);
        s.takenAt(80, LOOK, bag, NONE, NONE, 4, 0);
        expect.same("one of the same minute, behind it", s.room.breaks(bag), second);
        // The CLOSE by 3 ahead of them mends two; the one that saw 4 is left.
        s.takenAt(70, CLOSE, bag, NONE, NONE, 3, 0);
        expect.same("now the other is the first", s.room.breaks(bag), second + 1);
        expect.same("another bag has none", s.room.breaks(other), NONE);
    }

    private static void withoutBreak(Expect expect) {
        Scene s = new Scene(expect);
        int t = s.lay(A_THING, 9, 0);
        int bag = s.add(A_BAG, 0);
        expect.same("of a bag never KEPT", s.room.breaks(bag), NONE);
        s.taken(IN, bag, ANN, NONE, 1, DAN);
        expect.same("of a bag nobody looked at", s.room.breaks(bag), NONE);
        s.taken(LOOK, bag, NONE, NONE, NONE, 0);
        s.taken(CLOSE, bag, NONE, NONE, 0, 0);
        s.taken(LOOK, bag, NONE, NONE, 0, 0);
        s.taken(UNSEAL, bag, NONE, NONE, 0, 0);
        expect.same("of a bag always seen as it was", s.room.breaks(bag), NONE);
        expect.same("of a thing", s.room.breaks(t), NONE);
        expect.same("of a sample", s.room.breaks(s.draw(A_SAMPLE, t)), NONE);
        expect.same("of a copy", s.room.breaks(s.draw(A_COPY, t)), NONE);
        for (int thing : NO_THINGS) {
            expect.same("of " + thing, s.room.breaks(thing), NONE);
        }
    }

    private static void dueByNumber(Expect expect) {
        Scene s = new Scene(expect);
        int[] made = new int[5];
        for (int i = 0; i < 5; i++) {
            made[i] = s.lay(A_THING, 9, i);
        }
        s.room.pass(50);
        s.takenAt(50, OUT, made[4], ANN, NONE, DAN, 100000);
        s.takenAt(50, KEEP, made[2], NONE, NONE, 100000, 0);
        s.takenAt(50, OUT, made[1], ANN, NONE, DAN, 100000);
        s.takenAt(50, KEEP, made[1], NONE, NONE, 100000, 0);
        s.takenAt(50, OUT, made[3], ANN, NONE, DAN, 99999);
        int[] want = {made[1], made[2], made[4], NONE};
        for (int i = 0; i < want.length; i++) {
            expect.same("due(100000, " + i + ")", s.room.due(100000, i), want[i]);
        }
        expect.same("due(99999, 0)", s.room.due(99999, 0), made[3]);
        // Behind all slips: what was so once isn't any more; what is gone isn't KEPT.
        s.takenAt(50, BACK, made[4], ANN, NONE, 9, DAN);
        expect.same("due(100000, 2) behind BACK", s.room.due(100000, 2), NONE);
        s.takenAt(50, KEEP, made[2], NONE, NONE, 0, 0);
        expect.same("due(100000, 1) behind another KEEP", s.room.due(100000, 1), NONE);
        expect.same("due(0, 0)", s.room.due(0, 0), made[2]);
        s.destroy(made[2]);
        expect.same("due(0, 0) of what is gone", s.room.due(0, 0), NONE);
        s.takenAt(10, KEEP, made[0], NONE, NONE, 0, 0);
        expect.same("due(0, 0)", s.room.due(0, 0), made[0]);
        // Whatever was asked or refused in between.
        expect.same("ahead of all", s.room.where(made[0], -1, 50, 7), NONE);
        expect.same("due(0, 0)", s.room.due(0, 0), made[0]);
        s.refusedAt(0, s.slips(), WEIGH, made[0], NONE, NONE, 0, 10);
        expect.same("due(0, 0)", s.room.due(0, 0), made[0]);
        for (int i = made.length; i < 60; i++) {
            expect.same("thing", s.add(A_THING, 0), i);
        }
        s.takenAt(50, IN, 59, ANN, NONE, 11, DAN);
        s.takenAt(50, KEEP, 59, NONE, NONE, 0, 0);
        expect.same("due(0, 1) of the last thing", s.room.due(0, 1), 59);
        expect.same("due(0, 2)", s.room.due(0, 2), NONE);
    }

    private static void noneDue(Expect expect) {
        Scene s = new Scene(expect);
        expect.same("without things", s.room.due(0, 0), NONE);
        s.lay(A_THING, 9, 0);
        s.add(A_THING, 9);
        // NONE is no day, though nothing is due on none.
        for (int day : new int[] {MIN, -2, -1, 0, 100000, 100001, MAX}) {
            expect.same("due(" + day + ", 0)", s.room.due(day, 0), NONE);
        }
        s.taken(OUT, 0, ANN, NONE, DAN, 7);
        for (int i : new int[] {MIN, -2, -1, 1, 59, 60, MAX}) {
            expect.same("due(7, " + i + ")", s.room.due(7, i), NONE);
        }
        expect.same("due(6, 0)", s.room.due(6, 0), NONE);
        expect.same("due(8, 0)", s.room.due(8, 0), NONE);
        expect.same("due(7, 0)", s.room.due(7, 0), 0);
    }

    private static void howManyFrozen(Expect expect) {
        Scene s = new Scene(expect);
        expect.same("freeze of none", s.room.freeze(), 0);
        int t = s.lay(A_THING, 9, 0);
        expect.same("freeze of one", s.room.freeze(), 1);
        s.fill(t, 400);
        expect.same("the IMAGE has one still", s.room.about(6), 1);
        expect.same("freeze of 400", s.room.freeze(), 400);
        expect.yes("alter of the last", s.room.alter(399, 5, 9));
        expect.yes("thaw", s.room.thaw());
        s.is(t, 2, 0);
        // What was altered is gone by another freeze.
        s.room.alter(0, 0, 99);
        expect.same("check", s.room.check(), 0);
        expect.same("freeze anew", s.room.freeze(), 400);
        expect.same("check", s.room.check(), NONE);
    }

    /** Thing 0 IN at 0 and PUT at 10, 20, each written at its minute; NOW is 30. */
    private static Scene three(Expect expect) {
        Scene s = new Scene(expect);
        s.lay(A_THING, 9, 0);
        s.room.pass(10);
        s.taken(PUT, 0, ANN, NONE, 1, 0);
        s.room.pass(10);
        s.taken(PUT, 0, ANN, NONE, 2, 0);
        s.room.pass(10);
        return s;
    }

    private static void becomesV(Expect expect) {
        Scene s = three(expect);
        int other = s.add(A_THING, 9);
        s.room.freeze();
        int[] v = {IN, other, BEN, MIN, 23, EVE, 0};
        for (int what = 0; what <= 6; what++) {
            expect.yes("alter(2, " + what + ", " + v[what] + ")", s.room.alter(2, what, v[what]));
        }
        expect.same("the slips are as before", s.room.slipOf(2, 0), PUT);
        expect.same("check", s.room.check(), NONE);
        expect.yes("thaw", s.room.thaw());
        for (int what = 0; what <= 6; what++) {
            expect.same("slipOf(2, " + what + ")", s.room.slipOf(2, what), v[what]);
        }
        expect.same("the others are as before", s.room.slipOf(1, 0), PUT);
        s.stands(other, AT_PLACE, 23);
        // Any v, even one that can't be DONE.
        for (int what = 0; what <= 6; what++) {
            expect.yes("alter to the least", s.room.alter(0, what, MIN));
            expect.yes("alter to the most", s.room.alter(0, what, MAX));
        }
    }

    private static void alterNoneSuch(Expect expect) {
        Scene s = three(expect);
        s.room.freeze();
        s.taken(WEIGH, 0, NONE, NONE, 0, 1);
        for (int i : new int[] {MIN, -1, 3, 4, 399, 400, MAX}) {
            for (int what = 0; what <= 6; what++) {
                expect.no("alter(" + i + ", " + what + ", 99)", s.room.alter(i, what, 99));
            }
        }
        for (int what : new int[] {MIN, -2, -1, 7, 8, MAX}) {
            expect.no("alter(1, " + what + ", 99)", s.room.alter(1, what, 99));
        }
        expect.same("nothing is altered", s.room.check(), NONE);
        s.room.thaw();
        expect.same("written at", s.room.slipOf(1, 7), 10);
        expect.same("minute", s.room.slipOf(1, 6), 10);
    }

    private static void alterWithoutImage(Expect expect) {
        Scene s = three(expect);
        for (int what = 0; what <= 6; what++) {
            expect.no("alter(0, " + what + ", 99)", s.room.alter(0, what, 99));
        }
        expect.same("the slip", s.room.slipOf(0, 0), IN);
        expect.same("freeze", s.room.freeze(), 3);
        expect.same("check", s.room.check(), NONE);
    }

    private static void firstInItsOrder(Expect expect) {
        Scene s = three(expect);
        s.room.freeze();
        s.room.alter(1, 4, 24);
        s.room.alter(2, 4, 24);
        expect.same("1 and 2 can't be, 1 is ahead", s.room.check(), 1);
        s.room.alter(2, 6, 9);
        expect.same("2 is ahead by its minute", s.room.check(), 2);
        s.room.alter(2, 6, 10);
        expect.same("1 is ahead by its number", s.room.check(), 1);
        s.room.alter(1, 6, MAX);
        s.room.alter(2, 6, MIN);
        expect.same("2 is ahead, however far", s.room.check(), 2);
        s.room.alter(1, 6, MIN);
        s.room.alter(2, 6, MAX);
        expect.same("1 is ahead, however far", s.room.check(), 1);
        s.room.freeze();
        // Each could be DONE by itself; the first that can't be in that ORDER counts, not the one altered.
        s.room.alter(2, 6, 5);
        s.room.alter(2, 4, 1);
        expect.same("1 finds its place taken", s.room.check(), 1);
        s.room.alter(0, 6, 1);
        expect.same("0 is of a minute above the one it was written at", s.room.check(), 0);
    }

    private static void checkKindAndThing(Expect expect) {
        for (int kind : new int[] {MIN, -1, 0, 20, MAX}) {
            Scene s = three(expect);
            s.room.freeze();
            s.room.alter(1, 0, kind);
            expect.same("check of kind " + kind, s.room.check(), 1);
            s.room.alter(1, 0, PUT);
            expect.same("check of kind 5", s.room.check(), NONE);
        }
        for (int thing : new int[] {MIN, -1, 1, 59, 60, MAX}) {
            Scene s = three(expect);
            s.room.freeze();
            s.room.alter(1, 1, thing);
            expect.same("check of thing " + thing, s.room.check(), 1);
            s.room.alter(1, 1, 0);
            expect.same("check of thing 0", s.room.check(), NONE);
        }
    }

    private static void checkMinute(Expect expect) {
        Scene s = three(expect);
        s.room.freeze();
        for (int minute : new int[] {MIN, -2, -1, 11, 30, MAX}) {
            s.room.alter(1, 6, minute);
            expect.same("1, written at 10, of " + minute, s.room.check(), 1);
        }
        for (int minute : new int[] {0, 1, 9, 10}) {
            s.room.alter(1, 6, minute);
            expect.same("1, written at 10, of " + minute, s.room.check(), NONE);
        }
        // The first and the last in ORDER: but for that minute they could be DONE.
        for (int minute : new int[] {MIN, -1441, -1440, -1}) {
            s.room.alter(0, 6, minute);
            expect.same("0 of " + minute, s.room.check(), 0);
        }
        s.room.alter(0, 6, 0);
        for (int minute : new int[] {21, 30, 31, MAX}) {
            s.room.alter(2, 6, minute);
            expect.same("2, written at 20, of " + minute, s.room.check(), 2);
        }
        s.room.alter(2, 6, 20);
        expect.same("as written", s.room.check(), NONE);
    }

    private static void checkAllCan(Expect expect) {
        Scene s = new Scene(expect);
        s.room.freeze();
        expect.same("check of none", s.room.check(), NONE);
        Scene t = three(expect);
        t.room.freeze();
        expect.same("check", t.room.check(), NONE);
        t.room.alter(2, 4, 24);
        expect.same("check", t.room.check(), 2);
        // By a shelf more it can be.
        t.room.shelf(false);
        expect.same("check", t.room.check(), NONE);
    }

    private static void checkWithoutImage(Expect expect) {
        expect.same("check of a new room", new Counted(expect).check(), -2);
        Scene s = three(expect);
        expect.same("check", s.room.check(), -2);
        s.room.freeze();
        expect.same("check", s.room.check(), NONE);
        s.room.thaw();
        expect.same("check behind thaw", s.room.check(), NONE);
    }

    private static void slipsBecome(Expect expect) {
        Scene s = three(expect);
        s.room.freeze();
        s.room.alter(1, 4, 7);
        s.takenAt(5, WEIGH, 0, NONE, NONE, 0, 1);
        s.room.pass(70);
        s.taken(PUT, 0, ANN, NONE, 9, 0);
        expect.yes("thaw", s.room.thaw());
        expect.same("how many", s.slips(), 3);
        expect.same("slip 3", s.room.slipOf(3, 0), NONE);
        int[] written = {0, 10, 20};
        for (int i = 0; i < 3; i++) {
            expect.same("slip " + i + " was written at", s.room.slipOf(i, 7), written[i]);
        }
        expect.same("at 10", s.room.where(0, 10, 10, 1), 7);
        s.stands(0, AT_PLACE, 2);
        s.is(0, 2, 9);
        s.chainIs(0, 0, 1, 2);
        // To none, from none.
        Scene t = new Scene(expect);
        t.room.freeze();
        t.lay(A_THING, 9, 0);
        expect.yes("thaw of none", t.room.thaw());
        expect.same("how many", t.slips(), 0);
        t.stands(0, NOWHERE, NONE);
        expect.yes("thaw again", t.room.thaw());
        t.taken(IN, 0, ANN, NONE, 5, DAN);
    }

    private static void thawWithoutImage(Expect expect) {
        Scene s = three(expect);
        String before = s.state();
        expect.no("thaw", s.room.thaw());
        expect.yes("all is as before", s.state().equals(before));
        expect.no("thaw of a new room", new Counted(expect).thaw());
    }

    private static void thawOfUndone(Expect expect) {
        int[][] altered = {{0, 4, 24}, {1, 0, 20}, {2, 6, -1}, {2, 6, 21}, {1, 1, 1}, {2, 4, 1}};
        for (int[] x : altered) {
            Scene s = three(expect);
            s.room.freeze();
            s.taken(WEIGH, 0, NONE, NONE, 0, 1);
            s.room.alter(x[0], x[1], x[2]);
            String before = s.state();
            expect.same("check", s.room.check(), x[0]);
            expect.no("thaw", s.room.thaw());
            expect.yes("all is as before", s.state().equals(before));
            expect.same("how many", s.slips(), 4);
        }
    }

    private static void whatStays(Expect expect) {
        Scene s = three(expect);
        s.room.freeze();
        int bag = s.lay(A_BAG, 0, 3);
        s.taken(OUT, 0, ANN, NONE, DAN, 7);
        s.room.handing(0, DAN, EVE, 30);
        s.room.yes(0, DAN, 30);
        s.room.handing(0, DAN, EVE, 30);
        s.room.no(1, DAN);
        int keeper = s.room.hand(true);
        s.room.shelf(false);
        s.room.seals(3, 4);
        s.room.seals(0, NONE);
        s.room.pass(5);
        expect.yes("thaw", s.room.thaw());
        int[] counts = {6, 3, 2, 3, 35, 2, 3};
        for (int what = 0; what <= 6; what++) {
            expect.same("about(" + what + ")", s.room.about(what), counts[what]);
        }
        expect.same("yes to the one that has ended", s.room.yes(1, EVE, 30), NONE);
        expect.same("yes said already", s.room.yes(0, DAN, 30), NONE);
        expect.same("the other yes, of a thing at a place", s.room.yes(0, EVE, 30), 3);
        s.takenAt(29, OUT, 0, keeper, NONE, DAN, 7);
        expect.same("the other yes", s.room.yes(0, EVE, 30), 1);
        s.taken(IN, bag, keeper, NONE, 35, DAN);
        s.refused(CLOSE, bag, NONE, NONE, 0, 0);
        s.taken(CLOSE, bag, NONE, NONE, 303, 0);
    }
}
