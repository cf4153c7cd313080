/**
 * A room that counts its calls: what it answers behind the 512th is free, so no test may ask it then.
 * It knows NOW and how many slips there are from the answers, without a call.
 */
final class Counted {
    private static final int CALLS = 512;

    private final CustodyRoom room = new CustodyRoom();
    private final Expect expect;
    private int calls;
    private int now;
    private int slips;
    private int frozen;

    Counted(Expect expect) {
        this.expect = expect;
    }

    int now() {
        return now;
    }

    int slips() {
        return slips;
    }

    private void count() {
        calls++;
        if (calls == CALLS + 1) {
            expect.same("calls of one object", calls, CALLS);
        }
    }

    int hand(boolean keeper) {
        count();
        return room.hand(keeper);
    }

    int shelf(boolean cold) {
        count();
        return room.shelf(cold);
    }

    boolean seals(int row, int many) {
        count();
        return room.seals(row, many);
    }

    int thing(int kind, int weight) {
        count();
        return room.thing(kind, weight);
    }

    int pass(int minutes) {
        count();
        int told = room.pass(minutes);
        now = told == CustodyRoom.NONE ? now : told;
        return told;
    }

    int slip(int kind, int thing, int a, int b, int c, int d, int minute) {
        count();
        int number = room.slip(kind, thing, a, b, c, d, minute);
        slips = number == CustodyRoom.NONE ? slips : number + 1;
        return number;
    }

    int fault(int what) {
        count();
        return room.fault(what);
    }

    int handing(int thing, int giver, int taker, int minute) {
        count();
        return room.handing(thing, giver, taker, minute);
    }

    int yes(int handing, int hand, int minute) {
        count();
        int told = room.yes(handing, hand, minute);
        slips += told == 1 || told == 2 ? 1 : 0;
        return told;
    }

    boolean no(int handing, int hand) {
        count();
        return room.no(handing, hand);
    }

    int about(int what) {
        count();
        return room.about(what);
    }

    int slipOf(int i, int what) {
        count();
        return room.slipOf(i, what);
    }

    int where(int thing, int minute, int known, int what) {
        count();
        return room.where(thing, minute, known, what);
    }

    int chain(int thing, int i) {
        count();
        return room.chain(thing, i);
    }

    int gap(int thing, int i, int what) {
        count();
        return room.gap(thing, i, what);
    }

    int breaks(int bag) {
        count();
        return room.breaks(bag);
    }

    int due(int day, int i) {
        count();
        return room.due(day, i);
    }

    int freeze() {
        count();
        frozen = room.freeze();
        return frozen;
    }

    boolean alter(int i, int what, int v) {
        count();
        return room.alter(i, what, v);
    }

    int check() {
        count();
        return room.check();
    }

    boolean thaw() {
        count();
        boolean done = room.thaw();
        slips = done ? frozen : slips;
        return done;
    }
}
