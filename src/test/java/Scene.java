/**
 * A room ready for slips: hands 0, 1, 2 are KEEPERS, 3 and 4 are not; places 0 .. 11 are not COLD,
 * 12 .. 23 are; seals 0 .. 9 are GIVEN OUT. Slips are of the minute NOW where no other is told.
 */
final class Scene implements Words {
    final Counted room;
    private final Expect expect;

    Scene(Expect expect) {
        this.expect = expect;
        room = new Counted(expect);
        for (int i = 0; i < 5; i++) {
            room.hand(i <= CAT);
        }
        room.shelf(false);
        room.shelf(true);
        room.seals(0, 10);
    }

    int now() {
        return room.now();
    }

    int slips() {
        return room.slips();
    }

    /** A thing that was never KEPT. */
    int add(int kind, int weight) {
        return room.thing(kind, weight);
    }

    /** Ten things that are left alone, so that no thing told later has the number of a hand or of a day. */
    void pad() {
        for (int i = 0; i < 10; i++) {
            add(A_THING, 0);
        }
    }

    int lay(int kind, int weight, int place) {
        int t = add(kind, weight);
        taken(IN, t, ANN, BEN, place, DAN);
        return t;
    }

    /** A thing in a hand, due on day 7; it goes there by way of place 23, which is empty then as before. */
    int give(int kind, int weight, int hand) {
        int t = lay(kind, weight, 23);
        taken(OUT, t, ANN, BEN, hand, 7);
        return t;
    }

    /** A sample (kind 2) of weight 1 or a copy (kind 3) of a thing, in hand 0. */
    int draw(int kind, int of) {
        int x = add(kind, 0);
        taken(kind == A_SAMPLE ? PART : COPY, of, ANN, BEN, x, 1);
        return x;
    }

    /** Slips that change nothing, of a thing that is FREE, until there are so many; a call each, no more. */
    void fill(int t, int many) {
        for (int n = slips(); n < many; n++) {
            expect.same("WEIGH " + n, room.slip(WEIGH, t, NONE, NONE, 0, 0, now()), n);
        }
    }

    /** Of a thing at a place: it is gone then. */
    void destroy(int t) {
        taken(DESTROY, t, NONE, NONE, 0, 0);
        taken(DESTROYED, t, ANN, BEN, CAT, 0);
    }

    int taken(int kind, int t, int a, int b, int c, int d) {
        return takenAt(now(), kind, t, a, b, c, d);
    }

    int takenAt(int minute, int... slip) {
        int number = slips();
        expect.same(told(minute, slip), write(minute, slip), number);
        expect.same("the fault of " + told(minute, slip), room.fault(0), 0);
        return number;
    }

    void refused(int kind, int t, int a, int b, int c, int d) {
        refusedAt(now(), slips(), kind, t, a, b, c, d);
    }

    /** Refused by fault 5: the slip blamed, and no slip written. */
    void refusedAt(int minute, int blamed, int... slip) {
        refusedBy(5, minute, slip);
        expect.same("the slip that can't be DONE by " + told(minute, slip), room.fault(1), blamed);
    }

    void refusedBy(int fault, int minute, int... slip) {
        int before = slips();
        expect.same(told(minute, slip), write(minute, slip), NONE);
        expect.same("the fault of " + told(minute, slip), room.fault(0), fault);
        expect.same("the slips behind " + told(minute, slip), room.about(3), before);
    }

    private int write(int minute, int... slip) {
        return room.slip(slip[0], slip[1], slip[2], slip[3], slip[4], slip[5], minute);
    }

    private static String told(int minute, int... slip) {
        StringBuilder text = new StringBuilder("slip(");
        for (int v : slip) {
            text.append(v).append(", ");
        }
        return text.append(minute).append(')').toString();
    }

    int ask(int t, int what) {
        return room.where(t, now(), now(), what);
    }

    void is(int t, int what, int want) {
        expect.same("where(" + t + ", NOW, NOW, " + what + ")", ask(t, what), want);
    }

    void stands(int t, int how, int number) {
        is(t, 0, how);
        is(t, 1, number);
    }

    void chainIs(int thing, int... want) {
        for (int i = 0; i <= want.length; i++) {
            expect.same("chain(" + thing + ", " + i + ")", room.chain(thing, i), i < want.length ? want[i] : NONE);
        }
    }

    /** A GAP's four answers; four times NONE where none is told. */
    void gapIs(int thing, int i, int... want) {
        for (int what = 0; what < 4; what++) {
            expect.same("gap(" + thing + ", " + i + ", " + what + ")", room.gap(thing, i, what),
                    want.length == 4 ? want[what] : NONE);
        }
    }

    /** All that can be asked of this room at NOW but the fault: it is the same behind a call that changes nothing. */
    String state() {
        StringBuilder all = new StringBuilder();
        for (int what = 0; what <= 6; what++) {
            all.append(room.about(what)).append(' ');
        }
        for (int i = 0; i < slips(); i++) {
            for (int what = 0; what <= 8; what++) {
                all.append(room.slipOf(i, what)).append(' ');
            }
        }
        for (int t = 0; t < room.about(2); t++) {
            for (int what = 0; what <= 11; what++) {
                all.append(ask(t, what)).append(' ');
            }
            all.append(room.chain(t, 0)).append(' ').append(room.gap(t, 0, 3)).append(' ').append(room.breaks(t));
        }
        return all.append(room.due(7, 0)).append(' ').append(room.check()).toString();
    }

    /** A slip of a kind that can be DONE here and now: kind, t, a, b, c, d; what it needs is written first. */
    int[] ready(int kind) {
        switch (kind) {
            case IN:
                return new int[] {kind, add(A_THING, 5), ANN, NONE, 0, DAN};
            case OUT:
                return new int[] {kind, lay(A_THING, 5, 0), ANN, NONE, DAN, 7};
            case HAND:
                return new int[] {kind, give(A_THING, 5, DAN), NONE, NONE, DAN, EVE};
            case BACK:
                return new int[] {kind, give(A_THING, 5, DAN), ANN, NONE, 0, DAN};
            case PUT:
                return new int[] {kind, lay(A_THING, 5, 0), ANN, NONE, 1, 0};
            case INTO:
                return new int[] {kind, lay(A_THING, 5, 0), ANN, NONE, lay(A_BAG, 5, 1), 0};
            case FROM:
                int[] into = ready(INTO);
                taken(into[0], into[1], into[2], into[3], into[4], into[5]);
                return new int[] {kind, into[1], ANN, NONE, 0, 0};
            case PART:
                return new int[] {kind, lay(A_THING, 5, 0), ANN, NONE, add(A_SAMPLE, 0), 5};
            case COPY:
                return new int[] {kind, lay(A_THING, 5, 0), ANN, NONE, add(A_COPY, 0), 0};
            default:
                return readyWithoutKeeper(kind);
        }
    }

    private int[] readyWithoutKeeper(int kind) {
        int t = lay(kind >= CLOSE && kind <= LOOK ? A_BAG : A_THING, 5, 0);
        if (kind == UNSEAL) {
            taken(CLOSE, t, NONE, NONE, 0, 0);
        } else if (kind == OVER) {
            taken(TRIAL, t, NONE, NONE, 4, 0);
        } else if (kind == DESTROYED) {
            taken(DESTROY, t, NONE, NONE, 0, 0);
            return new int[] {kind, t, ANN, BEN, CAT, 0};
        } else if (kind == FOUND) {
            return new int[] {kind, t, NONE, NONE, 2, NONE};
        }
        int c = kind == UNSEAL || kind == CLOSE ? 0 : kind == LOOK ? NONE : 4;
        return new int[] {kind, t, NONE, NONE, c, 1};
    }
}
