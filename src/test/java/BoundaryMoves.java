/** The terms II, first half: who must be a KEEPER, what must be KEPT, and slips 1 to 7 and 19, which move things. */
final class BoundaryMoves implements Words {
    private static final int[] WITH_A = {IN, OUT, BACK, PUT, INTO, FROM, PART, COPY, DESTROYED};
    private static final int[] WITHOUT_A = {HAND, CLOSE, UNSEAL, LOOK, WEIGH, KEEP, DESTROY, TRIAL, OVER, FOUND};

    private BoundaryMoves() {
    }

    static void tell(Document doc) {
        doc.section("Terms II");
        doc.tells("A SLIP: its kind, its thing t, keepers a, b, and c, d. To be DONE it must find what is told here, "
                + "else it can't be");
        doc.holds("a is a KEEPER wherever a is named", BoundaryMoves::aIsAKeeper);
        doc.holds("b another KEEPER, where two are needed (else b doesn't count).", BoundaryMoves::bIsAnother);
        doc.holds("At first no thing is KEPT", BoundaryMoves::atFirstNotKept);
        doc.holds("a thing that is KEPT is at a PLACE (of no other one), in a hand, or in a bag",
                BoundaryMoves::placeOfNoOther);
        doc.holds("(it is FREE in a bag if that and all around it are OPEN, and FREE elsewhere).", BoundaryMoves::free);
        doc.holds("Of all kinds but 1, 11, 12 (for c) things told must be KEPT.", BoundaryMoves::mustBeKept);
        tellOfPlacesAndHands(doc);
        tellOfBags(doc);
        tellOfFound(doc);
    }

    private static void tellOfPlacesAndHands(Document doc) {
        doc.holds("1 IN (a): t was never KEPT", BoundaryMoves::inOfNeverKept);
        doc.holds("is no sample or copy", BoundaryMoves::inOfNoSampleOrCopy);
        doc.holds("it comes from a hand d", BoundaryMoves::inFromAHand);
        doc.holds("to PLACE c, which is empty.", BoundaryMoves::inToEmptyPlace);
        doc.holds("2 OUT (a): t is at a PLACE", BoundaryMoves::outFromPlace);
        doc.holds("it goes to hand c", BoundaryMoves::outToHand);
        doc.holds("due on day d (0 .. 100000).", BoundaryMoves::outDue);
        doc.holds("3 HAND: t is in hand c", BoundaryMoves::handFromHand);
        doc.holds("it goes to another one d.", BoundaryMoves::handToAnother);
        doc.holds("4 BACK (a): t is in hand d", BoundaryMoves::backFromHand);
        doc.holds("it goes to PLACE c, empty; it is not due any more.", BoundaryMoves::backToEmptyPlace);
        doc.holds("5 PUT (a): t is at a PLACE", BoundaryMoves::putFromPlace);
        doc.holds("it goes to PLACE c, empty. 6", BoundaryMoves::putToEmptyPlace);
    }

    private static void tellOfBags(Document doc) {
        doc.holds("INTO (a): c is a BAG, OPEN, not t and not in t (however deep)", BoundaryMoves::intoAnOpenBag);
        doc.holds("both are at PLACES, or in one hand", BoundaryMoves::intoFromBeside);
        doc.holds("c has fewer than 8 things", BoundaryMoves::fewerThanEight);
        doc.holds("and t would be in 4 bags at most, and each that is in it.", BoundaryMoves::fourBagsAtMost);
        doc.holds("t is in c then.", BoundaryMoves::inTheBagThen);
        doc.holds("7 FROM (a): t is in a BAG that is OPEN and at a PLACE or in a hand", BoundaryMoves::fromAnOpenBag);
        doc.holds("t goes to PLACE c, empty, if the BAG is at a PLACE", BoundaryMoves::fromToEmptyPlace);
        doc.holds("into that hand, if it is in a hand (c doesn't count).", BoundaryMoves::fromIntoThatHand);
    }

    private static void tellOfFound(Document doc) {
        doc.holds("19 FOUND: t goes to PLACE c, empty (d NONE)", BoundaryMoves::foundAtEmptyPlace);
        doc.holds("or into hand d (c NONE)", BoundaryMoves::foundInHand);
        doc.holds("it was somewhere else (in a bag counts so).", BoundaryMoves::foundElsewhere);
        doc.holds("A cold bag can't go to a PLACE that is not COLD (1, 4, 5, 7, 19).", BoundaryMoves::coldPlaces);
        doc.holds("Into a hand or a PLACE means: out of all it was in; what is in it goes with it.",
                BoundaryMoves::outOfAllItWasIn);
    }

    private static void aIsAKeeper(Expect expect) {
        for (int kind : WITH_A) {
            Scene s = new Scene(expect);
            int[] x = s.ready(kind);
            for (int a : NO_KEEPERS) {
                s.refused(kind, x[1], a, x[3], x[4], x[5]);
            }
            s.taken(kind, x[1], x[2], x[3], x[4], x[5]);
        }
        for (int kind : WITHOUT_A) {
            for (int a : NO_KEEPERS) {
                Scene s = new Scene(expect);
                int[] x = s.ready(kind);
                s.taken(kind, x[1], a, x[3], x[4], x[5]);
            }
        }
    }

    private static void bIsAnother(Expect expect) {
        int[] byTwo = {IN, OUT, BACK, PUT, INTO, FROM, CLOSE, UNSEAL, PART, COPY, DESTROYED};
        for (int kind : byTwo) {
            Scene s = new Scene(expect);
            s.pad();
            int[] x = readyOfMoney(s, kind);
            for (int b : NO_KEEPERS) {
                s.refused(kind, x[1], ANN, b, x[4], x[5]);
            }
            s.refused(kind, x[1], ANN, ANN, x[4], x[5]);
            s.taken(kind, x[1], ANN, BEN, x[4], x[5]);
        }
        for (int kind = IN; kind <= FOUND; kind++) {
            for (int b : new int[] {MIN, -2, ANN, DAN, 5, MAX}) {
                Scene s = new Scene(expect);
                int[] x = s.ready(kind);
                if (kind != DESTROYED) {
                    s.taken(kind, x[1], x[2], b, x[4], x[5]);
                }
            }
        }
    }

    private static int[] readyOfMoney(Scene s, int kind) {
        int money = kind == IN ? s.add(A_MONEY_BAG, 5) : kind == BACK ? s.give(A_MONEY_BAG, 5, DAN)
                : s.lay(A_MONEY_BAG, 5, 3);
        int[] x = {kind, money, ANN, BEN, 0, DAN};
        if (kind == OUT || kind == DESTROYED) {
            x[4] = CAT;
        } else if (kind == INTO || kind == FROM) {
            x[4] = s.lay(A_BAG, 0, 1);
        } else if (kind == PART || kind == COPY) {
            x[4] = s.add(kind == PART ? A_SAMPLE : A_COPY, 0);
        }
        if (kind == FROM) {
            s.taken(INTO, money, ANN, BEN, x[4], 0);
            x[4] = 4;
        } else if (kind == UNSEAL) {
            s.taken(CLOSE, money, ANN, BEN, 0, 0);
        } else if (kind == DESTROYED) {
            s.taken(DESTROY, money, NONE, NONE, 0, 0);
        }
        return x;
    }

    private static void atFirstNotKept(Expect expect) {
        for (int kind = A_THING; kind <= A_MONEY_BAG; kind++) {
            Scene s = new Scene(expect);
            int t = s.add(kind, 0);
            s.stands(t, NOWHERE, NONE);
            s.refused(LOOK, t, ANN, BEN, NONE, 0);
            s.refused(KEEP, t, ANN, BEN, 0, 0);
            s.refused(FOUND, t, ANN, BEN, 12, NONE);
            expect.same("due on day 0", s.room.due(0, 0), NONE);
        }
    }

    private static void placeOfNoOther(Expect expect) {
        Scene s = new Scene(expect);
        int first = s.lay(A_THING, 0, 0);
        int second = s.add(A_THING, 0);
        s.refused(IN, second, ANN, NONE, 0, DAN);
        s.taken(IN, second, ANN, NONE, 1, DAN);
        s.refused(PUT, second, ANN, NONE, 0, 0);
        s.stands(first, AT_PLACE, 0);
        s.stands(second, AT_PLACE, 1);
        // Hands have room for more than one, and what is in a hand leaves its place empty.
        s.taken(OUT, first, ANN, NONE, DAN, 0);
        s.taken(PUT, second, ANN, NONE, 0, 0);
        s.taken(OUT, second, ANN, NONE, DAN, 0);
        s.stands(first, IN_HAND, DAN);
        s.stands(second, IN_HAND, DAN);
        int third = s.lay(A_THING, 0, 0);
        s.taken(INTO, third, ANN, NONE, s.lay(A_BAG, 0, 2), 0);
        s.lay(A_THING, 0, 0);
    }

    private static void free(Expect expect) {
        Scene s = new Scene(expect);
        int t = s.lay(A_THING, 90, 0);
        int[] bags = {s.lay(A_BAG, 9, 1), s.lay(A_BAG, 9, 2), s.lay(A_BAG, 9, 3), s.lay(A_BAG, 9, 4)};
        isFree(s, t);
        for (int i = 0; i < 4; i++) {
            s.taken(INTO, i == 0 ? t : bags[i - 1], ANN, NONE, bags[i], 0);
            isFree(s, t);
        }
        for (int i = 0; i < 4; i++) {
            s.taken(CLOSE, bags[i], NONE, NONE, i, 0);
            isNotFree(s, t);
            s.taken(UNSEAL, bags[i], NONE, NONE, i, 0);
            isFree(s, t);
        }
        // Elsewhere: a bag that is sealed itself, at a place or in a hand.
        s.taken(CLOSE, bags[3], NONE, NONE, 4, 0);
        isFree(s, bags[3]);
        isNotFree(s, bags[2]);
        s.taken(OUT, bags[3], ANN, NONE, DAN, 0);
        isFree(s, bags[3]);
        isNotFree(s, t);
    }

    private static void isFree(Scene s, int t) {
        s.taken(WEIGH, t, NONE, NONE, 0, 0);
        s.draw(A_SAMPLE, t);
        s.draw(A_COPY, t);
    }

    private static void isNotFree(Scene s, int t) {
        s.refused(WEIGH, t, NONE, NONE, 0, 0);
        s.refused(PART, t, ANN, BEN, s.add(A_SAMPLE, 0), 1);
        s.refused(COPY, t, ANN, BEN, s.add(A_COPY, 0), 0);
    }

    private static void mustBeKept(Expect expect) {
        for (int kind = OUT; kind <= FOUND; kind++) {
            Scene s = new Scene(expect);
            int[] x = s.ready(kind);
            int bagOrThing = kind >= CLOSE && kind <= LOOK ? A_BAG : A_THING;
            int never = s.add(bagOrThing, 5);
            int gone = s.lay(bagOrThing, 5, 9);
            if (kind == UNSEAL) {
                s.taken(CLOSE, gone, NONE, NONE, 9, 0);
            }
            s.destroy(gone);
            s.refused(kind, never, x[2], x[3], x[4], x[5]);
            s.refused(kind, gone, x[2], x[3], x[4], x[5]);
            s.taken(kind, x[1], x[2], x[3], x[4], x[5]);
        }
        Scene s = new Scene(expect);
        int t = s.lay(A_THING, 5, 0);
        int gone = s.lay(A_BAG, 0, 1);
        s.destroy(gone);
        s.refused(INTO, t, ANN, NONE, s.add(A_BAG, 0), 0);
        s.refused(INTO, t, ANN, NONE, gone, 0);
        s.taken(PART, t, ANN, NONE, s.add(A_SAMPLE, 0), 1);
        s.taken(COPY, t, ANN, NONE, s.add(A_COPY, 0), 0);
    }

    private static void inOfNeverKept(Expect expect) {
        Scene s = new Scene(expect);
        int placed = s.lay(A_THING, 0, 0);
        int held = s.give(A_THING, 0, DAN);
        int gone = s.lay(A_THING, 0, 1);
        s.destroy(gone);
        for (int t : new int[] {placed, held, gone}) {
            s.refused(IN, t, ANN, NONE, 2, DAN);
        }
        s.taken(IN, s.add(A_THING, 0), ANN, NONE, 2, DAN);
    }

    private static void inOfNoSampleOrCopy(Expect expect) {
        Scene s = new Scene(expect);
        int place = 12;
        for (int kind = A_THING; kind <= A_MONEY_BAG; kind++) {
            int t = s.add(kind, 0);
            if (kind == A_SAMPLE || kind == A_COPY) {
                s.refused(IN, t, ANN, BEN, place, DAN);
                s.stands(t, NOWHERE, NONE);
            } else {
                s.taken(IN, t, ANN, BEN, place, DAN);
                s.stands(t, AT_PLACE, place);
                place++;
            }
        }
    }

    private static void inFromAHand(Expect expect) {
        Scene s = new Scene(expect);
        int t = s.add(A_THING, 0);
        for (int d : NO_HANDS) {
            s.refused(IN, t, ANN, NONE, 0, d);
        }
        s.taken(IN, t, ANN, NONE, 0, EVE);
        s.taken(IN, s.add(A_THING, 0), ANN, NONE, 1, ANN);
    }

    private static void inToEmptyPlace(Expect expect) {
        Scene s = new Scene(expect);
        s.lay(A_THING, 0, 0);
        int t = s.add(A_THING, 0);
        for (int c : NO_PLACES) {
            s.refused(IN, t, ANN, NONE, c, DAN);
        }
        s.refused(IN, t, ANN, NONE, 0, DAN);
        s.taken(IN, t, ANN, NONE, 23, DAN);
        s.stands(t, AT_PLACE, 23);
    }

    private static void outFromPlace(Expect expect) {
        Scene s = new Scene(expect);
        int held = s.give(A_THING, 0, DAN);
        int packed = s.lay(A_THING, 0, 0);
        int bag = s.lay(A_BAG, 0, 1);
        s.taken(INTO, packed, ANN, NONE, bag, 0);
        s.refused(OUT, held, ANN, NONE, EVE, 7);
        s.refused(OUT, packed, ANN, NONE, EVE, 7);
        s.taken(OUT, bag, ANN, NONE, EVE, 7);
        s.refused(OUT, packed, ANN, NONE, DAN, 7);
    }

    private static void outToHand(Expect expect) {
        Scene s = new Scene(expect);
        int t = s.lay(A_THING, 0, 0);
        for (int c : NO_HANDS) {
            s.refused(OUT, t, ANN, NONE, c, 7);
        }
        s.stands(t, AT_PLACE, 0);
        s.taken(OUT, t, ANN, NONE, EVE, 7);
        s.stands(t, IN_HAND, EVE);
        int u = s.lay(A_THING, 0, 0);
        s.taken(OUT, u, ANN, NONE, ANN, 7);
        s.stands(u, IN_HAND, ANN);
    }

    private static void outDue(Expect expect) {
        Scene s = new Scene(expect);
        int t = s.lay(A_THING, 0, 0);
        int u = s.lay(A_THING, 0, 1);
        for (int d : NO_DAYS) {
            s.refused(OUT, t, ANN, NONE, DAN, d);
        }
        s.is(t, 6, NONE);
        s.taken(OUT, t, ANN, NONE, DAN, 0);
        s.is(t, 6, 0);
        s.taken(OUT, u, ANN, NONE, DAN, 100000);
        s.is(u, 6, 100000);
    }

    private static void handFromHand(Expect expect) {
        Scene s = new Scene(expect);
        int placed = s.lay(A_THING, 0, DAN);
        int bag = s.give(A_BAG, 0, DAN);
        int packed = s.give(A_THING, 0, DAN);
        s.taken(INTO, packed, ANN, NONE, bag, 0);
        s.refused(HAND, placed, NONE, NONE, DAN, EVE);
        s.refused(HAND, packed, NONE, NONE, DAN, EVE);
        s.refused(HAND, packed, NONE, NONE, bag, EVE);
        for (int c : NO_HANDS) {
            s.refused(HAND, bag, NONE, NONE, c, EVE);
        }
        s.refused(HAND, bag, NONE, NONE, EVE, DAN);
        s.refused(HAND, bag, NONE, NONE, CAT, EVE);
        s.taken(HAND, bag, NONE, NONE, DAN, EVE);
        s.stands(bag, IN_HAND, EVE);
    }

    private static void handToAnother(Expect expect) {
        Scene s = new Scene(expect);
        int t = s.give(A_THING, 0, DAN);
        for (int d : NO_HANDS) {
            s.refused(HAND, t, NONE, NONE, DAN, d);
        }
        s.refused(HAND, t, NONE, NONE, DAN, DAN);
        s.taken(HAND, t, NONE, NONE, DAN, ANN);
        s.refused(HAND, t, NONE, NONE, ANN, ANN);
        s.taken(HAND, t, NONE, NONE, ANN, DAN);
        s.is(t, 6, 7);
    }

    private static void backFromHand(Expect expect) {
        Scene s = new Scene(expect);
        int placed = s.lay(A_THING, 0, DAN);
        int bag = s.give(A_BAG, 0, DAN);
        int packed = s.give(A_THING, 0, DAN);
        s.taken(INTO, packed, ANN, NONE, bag, 0);
        s.refused(BACK, placed, ANN, NONE, 0, DAN);
        s.refused(BACK, packed, ANN, NONE, 0, DAN);
        s.refused(BACK, packed, ANN, NONE, 0, bag);
        for (int d : NO_HANDS) {
            s.refused(BACK, bag, ANN, NONE, 0, d);
        }
        s.refused(BACK, bag, ANN, NONE, 0, EVE);
        s.taken(BACK, bag, ANN, NONE, 0, DAN);
    }

    private static void backToEmptyPlace(Expect expect) {
        Scene s = new Scene(expect);
        int t = s.give(A_THING, 0, DAN);
        s.lay(A_THING, 0, 0);
        for (int c : NO_PLACES) {
            s.refused(BACK, t, ANN, NONE, c, DAN);
        }
        s.refused(BACK, t, ANN, NONE, 0, DAN);
        s.is(t, 6, 7);
        expect.same("due on day 7", s.room.due(7, 0), t);
        s.taken(BACK, t, ANN, NONE, 23, DAN);
        s.stands(t, AT_PLACE, 23);
        s.is(t, 6, NONE);
        expect.same("due on day 7", s.room.due(7, 0), NONE);
    }

    private static void putFromPlace(Expect expect) {
        Scene s = new Scene(expect);
        int held = s.give(A_THING, 0, DAN);
        int packed = s.lay(A_THING, 0, 0);
        int bag = s.lay(A_BAG, 0, 1);
        s.taken(INTO, packed, ANN, NONE, bag, 0);
        s.refused(PUT, held, ANN, NONE, 2, 0);
        s.refused(PUT, packed, ANN, NONE, 2, 0);
        s.taken(PUT, bag, ANN, NONE, 2, 0);
    }

    private static void putToEmptyPlace(Expect expect) {
        Scene s = new Scene(expect);
        int t = s.lay(A_THING, 0, 0);
        s.lay(A_THING, 0, 1);
        for (int c : NO_PLACES) {
            s.refused(PUT, t, ANN, NONE, c, 0);
        }
        s.refused(PUT, t, ANN, NONE, 1, 0);
        s.refused(PUT, t, ANN, NONE, 0, 0);
        s.taken(PUT, t, ANN, NONE, 23, 0);
        s.taken(PUT, t, ANN, NONE, 0, 0);
        s.stands(t, AT_PLACE, 0);
    }

    private static void intoAnOpenBag(Expect expect) {
        Scene s = new Scene(expect);
        int t = s.lay(A_THING, 0, 0);
        int inner = s.lay(A_BAG, 0, 1);
        int middle = s.lay(A_BAG, 0, 2);
        int outer = s.lay(A_BAG, 0, 3);
        for (int c : NO_THINGS) {
            s.refused(INTO, t, ANN, NONE, c, 0);
        }
        s.refused(INTO, t, ANN, NONE, t, 0);
        s.refused(INTO, inner, ANN, NONE, t, 0);
        s.refused(INTO, inner, ANN, NONE, inner, 0);
        s.taken(INTO, inner, ANN, NONE, middle, 0);
        s.taken(INTO, middle, ANN, NONE, outer, 0);
        s.refused(INTO, middle, ANN, NONE, inner, 0);
        s.refused(INTO, outer, ANN, NONE, middle, 0);
        s.refused(INTO, outer, ANN, NONE, inner, 0);
        s.taken(CLOSE, outer, NONE, NONE, 0, 0);
        s.refused(INTO, t, ANN, NONE, outer, 0);
        s.taken(UNSEAL, outer, NONE, NONE, 0, 0);
        s.taken(INTO, t, ANN, NONE, outer, 0);
    }

    private static void intoFromBeside(Expect expect) {
        Scene s = new Scene(expect);
        int t = s.lay(A_THING, 0, DAN);
        int bag = s.lay(A_BAG, 0, EVE);
        int held = s.give(A_BAG, 0, DAN);
        // A place and a hand of one number are not one.
        s.refused(INTO, t, ANN, NONE, held, 0);
        s.refused(INTO, held, ANN, NONE, bag, 0);
        s.refused(INTO, s.give(A_THING, 0, EVE), ANN, NONE, bag, 0);
        s.taken(INTO, t, ANN, NONE, bag, 0);
        // t is in a bag now: it goes from there to no other, nor into one that is in a bag itself.
        s.refused(INTO, t, ANN, NONE, held, 0);
        s.refused(INTO, t, ANN, NONE, bag, 0);
        int inner = s.lay(A_BAG, 0, 0);
        s.taken(INTO, inner, ANN, NONE, bag, 0);
        s.refused(INTO, t, ANN, NONE, inner, 0);
        s.refused(INTO, s.lay(A_THING, 0, 0), ANN, NONE, inner, 0);
        int other = s.give(A_THING, 0, EVE);
        s.refused(INTO, other, ANN, NONE, held, 0);
        s.taken(HAND, other, NONE, NONE, EVE, DAN);
        s.taken(INTO, other, ANN, NONE, held, 0);
        s.stands(other, IN_BAG, held);
    }

    private static void fewerThanEight(Expect expect) {
        Scene s = new Scene(expect);
        int bag = s.lay(A_BAG, 0, 0);
        int last = NONE;
        for (int n = 1; n <= 8; n++) {
            last = s.lay(A_THING, 0, 1);
            s.taken(INTO, last, ANN, NONE, bag, 0);
            s.is(bag, 10, n);
        }
        int ninth = s.lay(A_THING, 0, 1);
        s.refused(INTO, ninth, ANN, NONE, bag, 0);
        s.is(bag, 10, 8);
        s.taken(FROM, last, ANN, NONE, 2, 0);
        s.is(bag, 10, 7);
        s.taken(INTO, ninth, ANN, NONE, bag, 0);
        // What its things have in them doesn't count.
        int outer = s.lay(A_BAG, 0, 3);
        s.taken(INTO, bag, ANN, NONE, outer, 0);
        s.is(outer, 10, 1);
        s.taken(INTO, last, ANN, NONE, outer, 0);
        s.is(outer, 10, 2);
    }

    private static void fourBagsAtMost(Expect expect) {
        Scene s = new Scene(expect);
        int t = s.lay(A_THING, 0, 0);
        int[] bags = new int[6];
        for (int i = 0; i < 6; i++) {
            bags[i] = s.lay(A_BAG, 0, i + 1);
        }
        s.taken(INTO, t, ANN, NONE, bags[0], 0);
        for (int i = 1; i < 4; i++) {
            s.taken(INTO, bags[i - 1], ANN, NONE, bags[i], 0);
        }
        s.refused(INTO, bags[3], ANN, NONE, bags[4], 0);
        s.is(t, 5, 4);
        // The innermost bag, empty then, may be in four as well as a thing.
        s.taken(FOUND, t, NONE, NONE, 0, NONE);
        s.taken(INTO, bags[3], ANN, NONE, bags[4], 0);
        s.is(bags[0], 5, 5);
        s.refused(INTO, bags[4], ANN, NONE, bags[5], 0);
        s.taken(FOUND, bags[0], NONE, NONE, 8, NONE);
        s.taken(INTO, bags[4], ANN, NONE, bags[5], 0);
    }

    private static void inTheBagThen(Expect expect) {
        Scene s = new Scene(expect);
        int t = s.lay(A_THING, 0, 0);
        int bag = s.lay(A_BAG, 0, 1);
        s.is(bag, 10, 0);
        s.taken(INTO, t, ANN, NONE, bag, 0);
        s.stands(t, IN_BAG, bag);
        s.is(t, 4, AT_PLACE);
        s.is(t, 5, 1);
        s.is(bag, 10, 1);
        // Its place is empty then.
        s.lay(A_THING, 0, 0);
    }

    private static void fromAnOpenBag(Expect expect) {
        Scene s = new Scene(expect);
        int t = s.lay(A_THING, 0, 0);
        int inner = s.lay(A_BAG, 0, 1);
        int outer = s.lay(A_BAG, 0, 2);
        s.refused(FROM, t, ANN, NONE, 5, 0);
        s.refused(FROM, s.give(A_THING, 0, DAN), ANN, NONE, 5, 0);
        s.taken(INTO, t, ANN, NONE, inner, 0);
        s.taken(CLOSE, inner, NONE, NONE, 0, 0);
        s.refused(FROM, t, ANN, NONE, 5, 0);
        s.taken(OUT, inner, ANN, NONE, DAN, 0);
        s.refused(FROM, t, ANN, NONE, 5, 0);
        s.taken(UNSEAL, inner, NONE, NONE, 0, 0);
        s.taken(BACK, inner, ANN, NONE, 1, DAN);
        s.taken(INTO, inner, ANN, NONE, outer, 0);
        s.refused(FROM, t, ANN, NONE, 5, 0);
        s.taken(OUT, outer, ANN, NONE, DAN, 0);
        s.refused(FROM, t, ANN, NONE, 5, 0);
        s.taken(FROM, inner, ANN, NONE, 5, 0);
        s.taken(FROM, t, ANN, NONE, 5, 0);
        s.stands(t, IN_HAND, DAN);
    }

    private static void fromToEmptyPlace(Expect expect) {
        Scene s = new Scene(expect);
        int t = s.lay(A_THING, 0, 0);
        int bag = s.lay(A_BAG, 0, 1);
        s.taken(INTO, t, ANN, NONE, bag, 0);
        for (int c : NO_PLACES) {
            s.refused(FROM, t, ANN, NONE, c, 0);
        }
        s.refused(FROM, t, ANN, NONE, 1, 0);
        s.taken(FROM, t, ANN, NONE, 23, 0);
        s.stands(t, AT_PLACE, 23);
        s.is(bag, 10, 0);
    }

    private static void fromIntoThatHand(Expect expect) {
        Scene s = new Scene(expect);
        int bag = s.give(A_BAG, 0, EVE);
        s.lay(A_THING, 0, 0);
        for (int c : new int[] {MIN, -1, 0, 5, 24, MAX}) {
            int t = s.give(A_THING, 0, EVE);
            s.taken(INTO, t, ANN, NONE, bag, 0);
            s.taken(FROM, t, ANN, NONE, c, 0);
            s.stands(t, IN_HAND, EVE);
        }
        s.is(bag, 10, 0);
    }

    private static void foundAtEmptyPlace(Expect expect) {
        Scene s = new Scene(expect);
        int t = s.lay(A_THING, 0, 0);
        s.lay(A_THING, 0, 1);
        for (int c : NO_PLACES) {
            s.refused(FOUND, t, NONE, NONE, c, NONE);
        }
        s.refused(FOUND, t, NONE, NONE, 1, NONE);
        for (int d : new int[] {MIN, -2, 0, DAN, 5, MAX}) {
            s.refused(FOUND, t, NONE, NONE, 2, d);
        }
        s.stands(t, AT_PLACE, 0);
        s.taken(FOUND, t, NONE, NONE, 23, NONE);
        s.stands(t, AT_PLACE, 23);
    }

    private static void foundInHand(Expect expect) {
        Scene s = new Scene(expect);
        int t = s.lay(A_THING, 0, 0);
        for (int d : NO_HANDS) {
            s.refused(FOUND, t, NONE, NONE, NONE, d);
        }
        for (int c : new int[] {MIN, -2, 0, 2, 24, MAX}) {
            s.refused(FOUND, t, NONE, NONE, c, DAN);
        }
        s.stands(t, AT_PLACE, 0);
        s.taken(FOUND, t, NONE, NONE, NONE, EVE);
        s.stands(t, IN_HAND, EVE);
        s.taken(FOUND, t, NONE, NONE, NONE, ANN);
        s.stands(t, IN_HAND, ANN);
    }

    private static void foundElsewhere(Expect expect) {
        Scene s = new Scene(expect);
        int t = s.lay(A_THING, 0, 0);
        int bag = s.give(A_BAG, 0, DAN);
        s.refused(FOUND, t, NONE, NONE, 0, NONE);
        s.taken(FOUND, t, NONE, NONE, NONE, DAN);
        s.refused(FOUND, t, NONE, NONE, NONE, DAN);
        // In a bag that the hand has, or at whose place it is found: that is somewhere else.
        s.taken(INTO, t, ANN, NONE, bag, 0);
        s.taken(FOUND, t, NONE, NONE, NONE, DAN);
        s.stands(t, IN_HAND, DAN);
        s.taken(INTO, t, ANN, NONE, bag, 0);
        s.taken(CLOSE, bag, NONE, NONE, 0, 0);
        s.taken(FOUND, t, NONE, NONE, 3, NONE);
        s.stands(t, AT_PLACE, 3);
        s.is(bag, 10, 0);
    }

    private static void coldPlaces(Expect expect) {
        Scene s = new Scene(expect);
        int cold = s.add(A_COLD_BAG, 0);
        int bag = s.lay(A_BAG, 0, 0);
        coldAlone(s, IN, cold, DAN);
        s.taken(OUT, cold, ANN, NONE, DAN, 0);
        coldAlone(s, BACK, cold, DAN);
        s.taken(PUT, cold, ANN, NONE, 13, 0);
        coldAlone(s, PUT, cold, 0);
        s.taken(INTO, cold, ANN, NONE, bag, 0);
        coldAlone(s, FROM, cold, 0);
        s.taken(FOUND, cold, NONE, NONE, NONE, DAN);
        coldAlone(s, FOUND, cold, NONE);
        // Into a bag or a hand that is not COLD it can go, and other bags to every place.
        s.taken(INTO, cold, ANN, NONE, bag, 0);
        s.taken(PUT, bag, ANN, NONE, 12, 0);
        s.taken(PUT, bag, ANN, NONE, 11, 0);
        s.is(cold, 5, 11);
    }

    /** To the last place ahead of the COLD shelf it can't go, to the first on it it can. */
    private static void coldAlone(Scene s, int kind, int cold, int d) {
        s.refused(kind, cold, ANN, NONE, 11, d);
        s.taken(kind, cold, ANN, NONE, 12, d);
        s.stands(cold, AT_PLACE, 12);
    }

    private static void outOfAllItWasIn(Expect expect) {
        Scene s = new Scene(expect);
        int t = s.lay(A_THING, 0, 0);
        int inner = s.lay(A_BAG, 0, 1);
        int outer = s.lay(A_BAG, 0, 2);
        s.taken(INTO, t, ANN, NONE, inner, 0);
        s.taken(INTO, inner, ANN, NONE, outer, 0);
        s.taken(OUT, outer, ANN, NONE, DAN, 0);
        s.is(t, 4, IN_HAND);
        s.is(t, 5, DAN);
        s.taken(FOUND, inner, NONE, NONE, 5, NONE);
        s.stands(inner, AT_PLACE, 5);
        s.is(outer, 10, 0);
        s.stands(t, IN_BAG, inner);
        s.is(t, 5, 5);
        s.taken(FOUND, inner, NONE, NONE, NONE, EVE);
        s.is(t, 4, IN_HAND);
        s.is(t, 5, EVE);
        s.is(inner, 10, 1);
        s.lay(A_THING, 0, 5);
    }
}
