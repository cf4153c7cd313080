/** The terms II, second half: slips 8 to 18, which seal bags, take parts, order and destroy. */
final class BoundaryHandling implements Words {
    private static final int[] NOT_SEEN = {-2, 1000, MIN, MAX};
    private static final int[] NO_TRIALS = {-1, -2, 31, 32, 36, 63, MIN, MAX};

    private BoundaryHandling() {
    }

    static void tell(Document doc) {
        doc.section("Terms II");
        doc.holds("8 CLOSE: t is a BAG, OPEN", BoundaryHandling::closeAnOpenBag);
        doc.holds("c is a SEAL that is GIVEN OUT", BoundaryHandling::closeByGivenOut);
        doc.holds("and was never put on", BoundaryHandling::closeByNeverPutOn);
        doc.holds("t is not OPEN any more, but sealed by it.", BoundaryHandling::closedThen);
        doc.holds("9 UNSEAL: t is a BAG that is not OPEN", BoundaryHandling::unsealASealedBag);
        doc.holds("c is what was seen on it (0 .. 999); it is OPEN.", BoundaryHandling::unsealSeen);
        doc.holds("10 LOOK: t is a BAG", BoundaryHandling::lookAtABag);
        doc.holds("c is what was seen (0 .. 999; NONE: that it is OPEN).", BoundaryHandling::lookSeen);
        doc.holds("(8, 9 (a) of a money bag alone.)", BoundaryHandling::keepersOfMoneyBagsAlone);
        doc.holds("11 PART (a): t is FREE", BoundaryHandling::partOfFree);
        doc.holds("c is a sample that was never KEPT, of t then", BoundaryHandling::partToSample);
        doc.holds("d is 1 up to t's weight: c weighs that, t so much less; c is in hand a.",
                BoundaryHandling::partWeighs);
        doc.holds("12 COPY (a): t is FREE", BoundaryHandling::copyOfFree);
        doc.holds("c is a copy that was never KEPT, of t then, in hand a.", BoundaryHandling::copyToCopy);
        doc.holds("13 WEIGH: t is FREE", BoundaryHandling::weighFree);
        doc.holds("d is 0 up to its weight: it weighs so much less.", BoundaryHandling::weighUpToItsWeight);
        tellOfOrders(doc);
        tellOfDestroyed(doc);
    }

    private static void tellOfOrders(Document doc) {
        doc.holds("14 KEEP: t is to be kept until day c (0 .. 100000)", BoundaryHandling::keepUntil);
        doc.holds("in place of what was told of that before.", BoundaryHandling::keepInPlaceOf);
        doc.holds("15 DESTROY: t is to be destroyed.", BoundaryHandling::toBeDestroyed);
        doc.holds("16 TRIAL: c is 0 .. 30, not going on for t; it goes on.", BoundaryHandling::trial);
        doc.holds("17 OVER: c goes on for t; it doesn't any more.", BoundaryHandling::over);
    }

    private static void tellOfDestroyed(Document doc) {
        doc.holds("18 DESTROYED (a, and b always", BoundaryHandling::destroyedByTwo);
        doc.holds("c a third hand, other than both)", BoundaryHandling::destroyedByAThird);
        doc.holds("t is at a PLACE, to be destroyed", BoundaryHandling::destroyedAtPlace);
        doc.holds("to be kept until no later day than this slip's", BoundaryHandling::destroyedNoLaterDay);
        doc.holds("no TRIAL goes on for it", BoundaryHandling::destroyedWithoutTrial);
        doc.holds("no thing in it", BoundaryHandling::destroyedEmpty);
        doc.holds("nothing of it, however far (samples, copies, theirs) itself in a hand.",
                BoundaryHandling::destroyedNothingInHand);
        doc.holds("It is gone, and KEPT no more.", BoundaryHandling::gone);
    }

    private static void closeAnOpenBag(Expect expect) {
        Scene s = new Scene(expect);
        int t = s.lay(A_THING, 5, 0);
        int bag = s.lay(A_BAG, 0, 1);
        s.refused(CLOSE, t, NONE, NONE, 0, 0);
        s.refused(CLOSE, s.draw(A_SAMPLE, t), NONE, NONE, 0, 0);
        s.refused(CLOSE, s.draw(A_COPY, t), NONE, NONE, 0, 0);
        s.taken(CLOSE, bag, NONE, NONE, 0, 0);
        s.refused(CLOSE, bag, NONE, NONE, 1, 0);
        s.is(bag, 3, 0);
        s.taken(UNSEAL, bag, NONE, NONE, 0, 0);
        s.taken(CLOSE, bag, NONE, NONE, 1, 0);
        // Wherever it is: in a hand, in a bag.
        int held = s.give(A_BAG, 0, DAN);
        int packed = s.lay(A_BAG, 0, 2);
        s.taken(INTO, packed, ANN, NONE, s.lay(A_BAG, 0, 3), 0);
        s.taken(CLOSE, held, NONE, NONE, 2, 0);
        s.taken(CLOSE, packed, NONE, NONE, 3, 0);
    }

    private static void closeByGivenOut(Expect expect) {
        Scene s = new Scene(expect);
        int bag = s.lay(A_BAG, 0, 0);
        for (int c : new int[] {MIN, -100, -1, 10, 99, 100, 599, 600, 999, MAX}) {
            s.refused(CLOSE, bag, NONE, NONE, c, 0);
        }
        s.is(bag, 3, NONE);
        s.taken(CLOSE, bag, NONE, NONE, 9, 0);
    }

    private static void closeByNeverPutOn(Expect expect) {
        Scene s = new Scene(expect);
        int bag = s.lay(A_BAG, 0, 0);
        int other = s.lay(A_BAG, 0, 1);
        s.taken(CLOSE, bag, NONE, NONE, 3, 0);
        s.refused(CLOSE, other, NONE, NONE, 3, 0);
        s.taken(UNSEAL, bag, NONE, NONE, 3, 0);
        s.refused(CLOSE, bag, NONE, NONE, 3, 0);
        s.refused(CLOSE, other, NONE, NONE, 3, 0);
        s.destroy(bag);
        s.refused(CLOSE, other, NONE, NONE, 3, 0);
        // One that was seen alone was not put on.
        s.taken(LOOK, other, NONE, NONE, 4, 0);
        s.taken(CLOSE, other, NONE, NONE, 4, 0);
    }

    private static void closedThen(Expect expect) {
        Scene s = new Scene(expect);
        int t = s.lay(A_THING, 0, 0);
        int bag = s.lay(A_BAG, 0, 1);
        int other = s.lay(A_BAG, 0, 2);
        s.is(bag, 3, NONE);
        s.taken(CLOSE, bag, NONE, NONE, 0, 0);
        s.is(bag, 3, 0);
        s.is(other, 3, NONE);
        s.refused(INTO, t, ANN, NONE, bag, 0);
        s.taken(INTO, t, ANN, NONE, other, 0);
    }

    private static void unsealASealedBag(Expect expect) {
        Scene s = new Scene(expect);
        int t = s.lay(A_THING, 0, 0);
        int bag = s.lay(A_BAG, 0, 1);
        s.refused(UNSEAL, t, NONE, NONE, 0, 0);
        s.refused(UNSEAL, bag, NONE, NONE, 0, 0);
        s.taken(CLOSE, bag, NONE, NONE, 0, 0);
        s.taken(UNSEAL, bag, NONE, NONE, 0, 0);
        s.refused(UNSEAL, bag, NONE, NONE, 0, 0);
    }

    private static void unsealSeen(Expect expect) {
        Scene s = new Scene(expect);
        int bag = s.lay(A_BAG, 0, 0);
        s.taken(CLOSE, bag, NONE, NONE, 5, 0);
        for (int c : NOT_SEEN) {
            s.refused(UNSEAL, bag, NONE, NONE, c, 0);
        }
        s.refused(UNSEAL, bag, NONE, NONE, NONE, 0);
        s.is(bag, 3, 5);
        s.taken(UNSEAL, bag, NONE, NONE, 999, 0);
        s.is(bag, 3, NONE);
        s.taken(CLOSE, bag, NONE, NONE, 6, 0);
        s.taken(UNSEAL, bag, NONE, NONE, 0, 0);
        s.is(bag, 3, NONE);
    }

    private static void lookAtABag(Expect expect) {
        Scene s = new Scene(expect);
        int t = s.lay(A_THING, 5, 0);
        int bag = s.lay(A_BAG, 0, 1);
        for (int c : new int[] {NONE, 0, 999}) {
            s.refused(LOOK, t, NONE, NONE, c, 0);
            s.refused(LOOK, s.draw(A_SAMPLE, t), NONE, NONE, c, 0);
            s.refused(LOOK, s.draw(A_COPY, t), NONE, NONE, c, 0);
            s.taken(LOOK, bag, NONE, NONE, c, 0);
        }
    }

    private static void lookSeen(Expect expect) {
        Scene s = new Scene(expect);
        int bag = s.lay(A_BAG, 0, 0);
        for (int round = 0; round < 2; round++) {
            for (int c : NOT_SEEN) {
                s.refused(LOOK, bag, NONE, NONE, c, 0);
            }
            s.taken(LOOK, bag, NONE, NONE, NONE, 0);
            s.taken(LOOK, bag, NONE, NONE, 0, 0);
            s.taken(LOOK, bag, NONE, NONE, 999, 0);
            // A look changes nothing; the second round is of a bag that is sealed.
            s.is(bag, 3, round == 0 ? NONE : 7);
            if (round == 0) {
                s.taken(CLOSE, bag, NONE, NONE, 7, 0);
            }
        }
    }

    private static void keepersOfMoneyBagsAlone(Expect expect) {
        Scene s = new Scene(expect);
        int money = s.lay(A_MONEY_BAG, 0, 0);
        s.refused(CLOSE, money, DAN, BEN, 9, 0);
        s.refused(CLOSE, money, ANN, NONE, 9, 0);
        s.taken(CLOSE, money, ANN, BEN, 9, 0);
        s.refused(UNSEAL, money, DAN, BEN, 9, 0);
        s.refused(UNSEAL, money, ANN, NONE, 9, 0);
        s.taken(UNSEAL, money, ANN, BEN, 9, 0);
        int[] others = {s.lay(A_BAG, 0, 1), s.lay(A_COLD_BAG, 0, 12)};
        for (int i = 0; i < others.length; i++) {
            s.taken(CLOSE, others[i], DAN, NONE, i, 0);
            s.taken(UNSEAL, others[i], NONE, NONE, i, 0);
        }
    }

    /** A thing in an inner bag in an outer one that is sealed: neither it nor the inner bag is FREE. */
    private static int[] sealedIn(Scene s) {
        int t = s.lay(A_THING, 9, 0);
        int inner = s.lay(A_BAG, 9, 1);
        int outer = s.lay(A_BAG, 9, 2);
        s.taken(INTO, t, ANN, NONE, inner, 0);
        s.taken(INTO, inner, ANN, NONE, outer, 0);
        s.taken(CLOSE, outer, NONE, NONE, 0, 0);
        return new int[] {t, inner, outer};
    }

    private static void partOfFree(Expect expect) {
        Scene s = new Scene(expect);
        int[] x = sealedIn(s);
        int sample = s.add(A_SAMPLE, 0);
        s.refused(PART, x[0], ANN, NONE, sample, 1);
        s.refused(PART, x[1], ANN, NONE, sample, 1);
        s.taken(PART, x[2], ANN, NONE, sample, 1);
        s.taken(UNSEAL, x[2], NONE, NONE, 0, 0);
        s.taken(PART, x[0], ANN, NONE, s.add(A_SAMPLE, 0), 1);
        s.taken(PART, s.give(A_THING, 1, DAN), ANN, NONE, s.add(A_SAMPLE, 0), 1);
    }

    private static void partToSample(Expect expect) {
        Scene s = new Scene(expect);
        int t = s.lay(A_THING, 9, 0);
        for (int c : NO_THINGS) {
            s.refused(PART, t, ANN, NONE, c, 1);
        }
        s.refused(PART, t, ANN, NONE, s.add(A_THING, 0), 1);
        s.refused(PART, t, ANN, NONE, s.add(A_BAG, 0), 1);
        s.refused(PART, t, ANN, NONE, s.add(A_COPY, 0), 1);
        s.refused(PART, t, ANN, NONE, t, 1);
        int sample = s.draw(A_SAMPLE, t);
        s.is(sample, 11, t);
        s.refused(PART, t, ANN, NONE, sample, 1);
        s.refused(PART, sample, ANN, NONE, sample, 1);
        s.taken(BACK, sample, ANN, NONE, 1, ANN);
        s.destroy(sample);
        s.refused(PART, t, ANN, NONE, sample, 1);
        s.is(t, 2, 8);
    }

    private static void partWeighs(Expect expect) {
        Scene s = new Scene(expect);
        int t = s.lay(A_THING, 9, 0);
        int sample = s.add(A_SAMPLE, 0);
        int second = s.add(A_SAMPLE, 0);
        for (int d : new int[] {MIN, -1, 0, 10, MAX}) {
            s.refused(PART, t, CAT, NONE, sample, d);
        }
        s.taken(PART, t, CAT, NONE, sample, 1);
        s.is(sample, 2, 1);
        s.is(t, 2, 8);
        s.stands(sample, IN_HAND, CAT);
        s.refused(PART, t, ANN, NONE, second, 9);
        s.taken(PART, t, ANN, NONE, second, 8);
        s.is(second, 2, 8);
        s.is(t, 2, 0);
        s.stands(second, IN_HAND, ANN);
        s.refused(PART, t, ANN, NONE, s.add(A_SAMPLE, 0), 1);
        s.refused(PART, t, ANN, NONE, s.add(A_SAMPLE, 0), 0);
    }

    private static void copyOfFree(Expect expect) {
        Scene s = new Scene(expect);
        int[] x = sealedIn(s);
        int copy = s.add(A_COPY, 0);
        s.refused(COPY, x[0], ANN, NONE, copy, 0);
        s.refused(COPY, x[1], ANN, NONE, copy, 0);
        s.taken(COPY, x[2], ANN, NONE, copy, 0);
        s.taken(UNSEAL, x[2], NONE, NONE, 0, 0);
        s.taken(COPY, x[0], ANN, NONE, s.add(A_COPY, 0), 0);
        s.taken(COPY, s.give(A_THING, 0, DAN), ANN, NONE, s.add(A_COPY, 0), 0);
    }

    private static void copyToCopy(Expect expect) {
        Scene s = new Scene(expect);
        int t = s.lay(A_THING, 0, 0);
        for (int c : NO_THINGS) {
            s.refused(COPY, t, ANN, NONE, c, 0);
        }
        s.refused(COPY, t, ANN, NONE, s.add(A_THING, 0), 0);
        s.refused(COPY, t, ANN, NONE, s.add(A_BAG, 0), 0);
        s.refused(COPY, t, ANN, NONE, s.add(A_SAMPLE, 0), 0);
        s.refused(COPY, t, ANN, NONE, t, 0);
        int copy = s.add(A_COPY, 0);
        s.taken(COPY, t, CAT, NONE, copy, MIN);
        s.is(copy, 11, t);
        s.stands(copy, IN_HAND, CAT);
        s.refused(COPY, t, ANN, NONE, copy, 0);
        s.refused(COPY, copy, ANN, NONE, copy, 0);
        s.taken(BACK, copy, ANN, NONE, 1, CAT);
        s.destroy(copy);
        s.refused(COPY, t, ANN, NONE, copy, 0);
    }

    private static void weighFree(Expect expect) {
        Scene s = new Scene(expect);
        int[] x = sealedIn(s);
        s.refused(WEIGH, x[0], NONE, NONE, 0, 1);
        s.refused(WEIGH, x[1], NONE, NONE, 0, 1);
        s.taken(WEIGH, x[2], NONE, NONE, 0, 1);
        s.taken(UNSEAL, x[2], NONE, NONE, 0, 0);
        s.taken(WEIGH, x[0], NONE, NONE, 0, 1);
        s.taken(WEIGH, s.give(A_THING, 1, DAN), NONE, NONE, 0, 1);
    }

    private static void weighUpToItsWeight(Expect expect) {
        Scene s = new Scene(expect);
        int t = s.lay(A_THING, 9, 0);
        for (int d : new int[] {MIN, -1, 10, MAX}) {
            s.refused(WEIGH, t, NONE, NONE, 0, d);
        }
        s.taken(WEIGH, t, NONE, NONE, 0, 0);
        s.is(t, 2, 9);
        s.taken(WEIGH, t, NONE, NONE, 0, 4);
        s.is(t, 2, 5);
        s.refused(WEIGH, t, NONE, NONE, 0, 6);
        s.taken(WEIGH, t, NONE, NONE, 0, 5);
        s.is(t, 2, 0);
        s.refused(WEIGH, t, NONE, NONE, 0, 1);
        s.taken(WEIGH, t, NONE, NONE, 0, 0);
    }

    private static void keepUntil(Expect expect) {
        Scene s = new Scene(expect);
        int t = s.lay(A_THING, 9, 0);
        for (int c : NO_DAYS) {
            s.refused(KEEP, t, NONE, NONE, c, 0);
        }
        s.is(t, 7, NONE);
        s.taken(KEEP, t, NONE, NONE, 0, 0);
        s.is(t, 7, 0);
        s.taken(KEEP, t, NONE, NONE, 100000, 0);
        s.is(t, 7, 100000);
    }

    private static void keepInPlaceOf(Expect expect) {
        Scene s = new Scene(expect);
        int t = s.lay(A_THING, 9, 0);
        s.taken(DESTROY, t, NONE, NONE, 0, 0);
        s.taken(KEEP, t, NONE, NONE, 5, 0);
        s.refused(DESTROYED, t, ANN, BEN, CAT, 0);
        s.taken(KEEP, t, NONE, NONE, 0, 0);
        s.is(t, 7, 0);
        expect.same("kept until day 5", s.room.due(5, 0), NONE);
        s.taken(DESTROYED, t, ANN, BEN, CAT, 0);
    }

    private static void toBeDestroyed(Expect expect) {
        Scene s = new Scene(expect);
        int t = s.lay(A_THING, 9, 0);
        int other = s.lay(A_THING, 9, 1);
        s.is(t, 8, 0);
        s.taken(DESTROY, t, NONE, NONE, MIN, MAX);
        s.is(t, 8, 1);
        s.is(other, 8, 0);
        s.taken(DESTROY, t, NONE, NONE, 0, 0);
        s.is(t, 8, 1);
        s.stands(t, AT_PLACE, 0);
    }

    private static void trial(Expect expect) {
        Scene s = new Scene(expect);
        int t = s.lay(A_THING, 9, 0);
        int other = s.lay(A_THING, 9, 1);
        for (int c : NO_TRIALS) {
            s.refused(TRIAL, t, NONE, NONE, c, 0);
        }
        s.is(t, 9, 0);
        for (int c = 0; c <= 30; c++) {
            s.taken(TRIAL, t, NONE, NONE, c, 0);
            s.refused(TRIAL, t, NONE, NONE, c, 0);
            s.is(t, 9, c + 1);
        }
        s.is(other, 9, 0);
        s.taken(TRIAL, other, NONE, NONE, 30, 0);
        s.is(other, 9, 1);
    }

    private static void over(Expect expect) {
        Scene s = new Scene(expect);
        s.pad();
        int t = s.lay(A_THING, 9, 0);
        int other = s.lay(A_THING, 9, 1);
        for (int c = 0; c <= 30; c++) {
            s.refused(OVER, t, NONE, NONE, c, 0);
            s.taken(TRIAL, t, NONE, NONE, c, 0);
        }
        for (int c : NO_TRIALS) {
            s.refused(OVER, t, NONE, NONE, c, 0);
        }
        s.refused(OVER, other, NONE, NONE, 0, 0);
        for (int c = 30; c >= 0; c--) {
            s.taken(OVER, t, NONE, NONE, c, 0);
            s.is(t, 9, c);
            s.refused(OVER, t, NONE, NONE, c, 0);
        }
        s.taken(TRIAL, t, NONE, NONE, 30, 0);
    }

    private static int doomed(Scene s, int kind, int place) {
        int t = s.lay(kind, 9, place);
        s.taken(DESTROY, t, NONE, NONE, 0, 0);
        return t;
    }

    private static void destroyedByTwo(Expect expect) {
        Scene s = new Scene(expect);
        for (int kind : new int[] {A_THING, A_BAG, A_MONEY_BAG}) {
            int t = doomed(s, kind, 0);
            for (int hand : NO_KEEPERS) {
                s.refused(DESTROYED, t, hand, BEN, CAT, 0);
                s.refused(DESTROYED, t, BEN, hand, CAT, 0);
            }
            s.refused(DESTROYED, t, ANN, ANN, CAT, 0);
            s.taken(DESTROYED, t, ANN, BEN, CAT, 0);
        }
    }

    private static void destroyedByAThird(Expect expect) {
        Scene s = new Scene(expect);
        int t = doomed(s, A_THING, 0);
        for (int c : NO_HANDS) {
            s.refused(DESTROYED, t, ANN, BEN, c, 0);
        }
        s.refused(DESTROYED, t, ANN, BEN, ANN, 0);
        s.refused(DESTROYED, t, ANN, BEN, BEN, 0);
        s.taken(DESTROYED, t, ANN, BEN, EVE, 0);
        s.taken(DESTROYED, doomed(s, A_THING, 0), BEN, CAT, ANN, 0);
    }

    private static void destroyedAtPlace(Expect expect) {
        Scene s = new Scene(expect);
        int t = s.lay(A_THING, 9, 0);
        int bag = s.lay(A_BAG, 9, 1);
        s.refused(DESTROYED, t, ANN, BEN, CAT, 0);
        s.taken(DESTROY, t, NONE, NONE, 0, 0);
        s.taken(OUT, t, ANN, NONE, DAN, 0);
        s.refused(DESTROYED, t, ANN, BEN, CAT, 0);
        s.taken(BACK, t, ANN, NONE, 0, DAN);
        s.taken(INTO, t, ANN, NONE, bag, 0);
        s.refused(DESTROYED, t, ANN, BEN, CAT, 0);
        s.taken(FROM, t, ANN, NONE, 0, 0);
        s.taken(DESTROYED, t, ANN, BEN, CAT, 0);
    }

    private static void destroyedNoLaterDay(Expect expect) {
        Scene s = new Scene(expect);
        int[] made = {doomed(s, A_THING, 0), doomed(s, A_THING, 1), doomed(s, A_THING, 2)};
        s.taken(KEEP, made[0], NONE, NONE, 2, 0);
        s.taken(KEEP, made[1], NONE, NONE, 1, 0);
        s.room.pass(10000);
        // The slip's day counts, not the day on which it is written.
        s.refusedAt(2879, s.slips(), DESTROYED, made[0], ANN, BEN, CAT, 0);
        s.takenAt(2880, DESTROYED, made[0], ANN, BEN, CAT, 0);
        s.takenAt(2880, DESTROYED, made[1], ANN, BEN, CAT, 0);
        // Without a KEEP any day is late enough.
        s.takenAt(0, DESTROYED, made[2], ANN, BEN, CAT, 0);
        int last = doomed(s, A_THING, 3);
        s.taken(KEEP, last, NONE, NONE, 100000, 0);
        s.refused(DESTROYED, last, ANN, BEN, CAT, 0);
    }

    private static void destroyedWithoutTrial(Expect expect) {
        Scene s = new Scene(expect);
        int t = doomed(s, A_THING, 0);
        int other = s.lay(A_THING, 0, 1);
        for (int c : new int[] {0, 30}) {
            s.taken(TRIAL, t, NONE, NONE, c, 0);
            s.refused(DESTROYED, t, ANN, BEN, CAT, 0);
        }
        s.taken(OVER, t, NONE, NONE, 0, 0);
        s.refused(DESTROYED, t, ANN, BEN, CAT, 0);
        s.taken(OVER, t, NONE, NONE, 30, 0);
        s.taken(TRIAL, other, NONE, NONE, 30, 0);
        s.taken(DESTROYED, t, ANN, BEN, CAT, 0);
    }

    private static void destroyedEmpty(Expect expect) {
        Scene s = new Scene(expect);
        s.pad();
        int bag = doomed(s, A_BAG, 0);
        int t = s.lay(A_THING, 0, 1);
        s.taken(INTO, t, ANN, NONE, bag, 0);
        s.refused(DESTROYED, bag, ANN, BEN, CAT, 0);
        s.taken(FOUND, t, NONE, NONE, NONE, DAN);
        s.taken(DESTROYED, bag, ANN, BEN, CAT, 0);
        // An empty bag may be sealed.
        int closed = doomed(s, A_BAG, 0);
        s.taken(CLOSE, closed, NONE, NONE, 0, 0);
        s.taken(DESTROYED, closed, ANN, BEN, CAT, 0);
    }

    private static void destroyedNothingInHand(Expect expect) {
        Scene s = new Scene(expect);
        s.pad();
        int t = doomed(s, A_THING, 0);
        int other = s.lay(A_THING, 9, 1);
        s.draw(A_SAMPLE, other);
        int sample = s.draw(A_SAMPLE, t);
        int copy = s.draw(A_COPY, sample);
        int far = s.draw(A_COPY, copy);
        int[] all = {sample, copy, far};
        for (int i = 0; i < all.length; i++) {
            s.refused(DESTROYED, t, ANN, BEN, CAT, 0);
            s.taken(BACK, all[i], ANN, NONE, 4 + i, ANN);
        }
        // A copy of a copy that is gone is of t still.
        s.destroy(copy);
        s.taken(OUT, far, ANN, NONE, DAN, 0);
        s.refused(DESTROYED, t, ANN, BEN, CAT, 0);
        // In a bag that a hand has it isn't itself in a hand.
        s.taken(INTO, far, ANN, NONE, s.give(A_BAG, 0, DAN), 0);
        s.taken(DESTROYED, t, ANN, BEN, CAT, 0);
        partsOfEveryNumber(expect);
    }

    /** Samples that are the first and the last thing there can be. */
    private static void partsOfEveryNumber(Expect expect) {
        Scene s = new Scene(expect);
        int first = s.add(A_SAMPLE, 0);
        int t = doomed(s, A_THING, 0);
        for (int i = 2; i < 60; i++) {
            expect.same("a sample", s.add(A_SAMPLE, 0), i);
        }
        for (int sample : new int[] {first, 59}) {
            s.taken(PART, t, ANN, NONE, sample, 1);
            s.refused(DESTROYED, t, ANN, BEN, CAT, 0);
            s.taken(BACK, sample, ANN, NONE, 1 + sample % 7, ANN);
        }
        s.taken(DESTROYED, t, ANN, BEN, CAT, 0);
    }

    private static void gone(Expect expect) {
        Scene s = new Scene(expect);
        int bag = s.lay(A_BAG, 9, 0);
        int t = s.lay(A_THING, 9, 1);
        s.taken(KEEP, bag, NONE, NONE, 0, 0);
        expect.same("kept until day 0", s.room.due(0, 0), bag);
        s.destroy(bag);
        s.stands(bag, GONE, NONE);
        expect.same("kept until day 0", s.room.due(0, 0), NONE);
        s.refused(IN, bag, ANN, BEN, 0, DAN);
        s.refused(LOOK, bag, ANN, BEN, NONE, 0);
        s.refused(INTO, t, ANN, BEN, bag, 0);
        s.refused(FOUND, bag, ANN, BEN, 2, NONE);
        s.refused(FOUND, bag, ANN, BEN, NONE, DAN);
        s.refused(DESTROYED, bag, ANN, BEN, CAT, 0);
        s.refused(COPY, bag, ANN, BEN, s.add(A_COPY, 0), 0);
        // Its place is empty.
        s.taken(PUT, t, ANN, NONE, 0, 0);
    }
}
