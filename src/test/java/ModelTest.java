import java.util.ArrayList;
import java.util.List;
import java.util.Random;

/** All promises: runs of 512 calls, drawn by fixed seeds, answered as PlainRoom answers them. */
public final class ModelTest {
    private static final int CALLS = 512;

    private final Random random;
    private final CustodyRoom room = new CustodyRoom();
    private final PlainRoom plain = new PlainRoom();
    private final List<String> calls = new ArrayList<>();
    private final int lateness;
    private final int wildness;
    private final int[] takenByKind;
    private PlainRoom.World world;

    private ModelTest(long seed, int[] takenByKind) {
        random = new Random(seed);
        lateness = random.nextInt(3) == 0 ? 40 : 10;
        wildness = random.nextInt(4) == 0 ? 30 : 4;
        this.takenByKind = takenByKind;
    }

    public static void main(String[] args) {
        int runs = args.length > 0 ? Integer.parseInt(args[0]) : 300;
        int first = args.length > 1 ? Integer.parseInt(args[1]) : 0;
        int[] taken = new int[20];
        for (int run = first; run < first + runs; run++) {
            ModelTest test = new ModelTest(run, taken);
            if (!test.run()) {
                System.out.println("seed " + run + ":");
                test.calls.forEach(System.out::println);
                System.exit(1);
            }
        }
        StringBuilder told = new StringBuilder("slips taken by kind:");
        for (int kind = 1; kind < 20; kind++) {
            told.append(' ').append(kind).append(':').append(taken[kind]);
            if (taken[kind] == 0) {
                System.out.println("no slip of kind " + kind + " was taken");
                System.exit(1);
            }
        }
        System.out.println(told);
        System.out.println(runs + " runs of " + CALLS + " calls answered as the plain room does");
    }

    private boolean run() {
        int asked = 0;
        boolean same = true;
        int first = 14 + random.nextInt(40);
        while (same && asked < CALLS) {
            same = asked < first ? setUp() : call();
            asked++;
        }
        return same;
    }

    private int of(int bound) {
        return random.nextInt(bound);
    }

    private boolean chance(int percent) {
        return of(100) < percent;
    }

    private boolean same(String call, int got, int want) {
        calls.add("  " + call + " = " + got + (got == want ? "" : ", due is " + want));
        return got == want;
    }

    private boolean same(String call, boolean got, boolean want) {
        return same(call, got ? 1 : 0, want ? 1 : 0);
    }

    private int wild() {
        int[] some = {-1, -2, Integer.MIN_VALUE, Integer.MAX_VALUE, 100000, 100001, 1000, 400, 60, 20, 8, 96, 600};
        return chance(50) ? of(24) - 2 : some[of(some.length)];
    }

    private boolean setUp() {
        int draw = of(10);
        if (draw < 2) {
            boolean keeper = chance(60);
            return same("hand(" + keeper + ")", room.hand(keeper), plain.addHand(keeper));
        }
        if (draw == 2) {
            boolean cold = chance(40);
            return same("shelf(" + cold + ")", room.shelf(cold), plain.addShelf(cold));
        }
        if (draw == 3) {
            return seals(of(7), of(53) - 2);
        }
        int kind = new int[] {0, 0, 1, 1, 1, 2, 2, 3, 4, 5, 6}[of(11)];
        int weight = kind == 2 || kind == 3 ? (chance(95) ? 0 : 1) : chance(95) ? of(60) : wild();
        return same("thing(" + kind + ", " + weight + ")", room.thing(kind, weight), plain.thing(kind, weight));
    }

    private boolean seals(int row, int many) {
        return same("seals(" + row + ", " + many + ")", room.seals(row, many), plain.seals(row, many));
    }

    private boolean call() {
        int draw = of(100);
        if (draw < 48) {
            return slip();
        }
        if (draw < 53) {
            return setUp();
        }
        if (draw < 60) {
            int minutes = chance(95) ? of(chance(80) ? 40 : 2000) : wild();
            return same("pass(" + minutes + ")", room.pass(minutes), plain.pass(minutes));
        }
        if (draw < 70) {
            return handings();
        }
        if (draw < 79) {
            return image();
        }
        return ask();
    }

    private int someThing() {
        return chance(wildness) ? wild() : of(Math.max(1, plain.kinds.size()));
    }

    private int someHand() {
        return chance(wildness) ? wild() : of(Math.max(1, plain.hands.size()));
    }

    private int someKeeper() {
        int h = someHand();
        for (int tries = 0; tries < 20 && !plain.keeper(h) && !chance(wildness); tries++) {
            h = someHand();
        }
        return h;
    }

    private int somePlace() {
        return chance(wildness) ? wild() : of(Math.max(1, 12 * plain.shelves.size()));
    }

    private int someMinute() {
        if (chance(wildness / 2)) {
            return wild();
        }
        return chance(lateness) ? Math.max(0, plain.now - of(chance(50) ? 20 : 3000)) : plain.now;
    }

    /** A thing that stands as told, if one soon turns up. */
    private int thingThat(String standings) {
        int t = someThing();
        for (int tries = 0; tries < 40 && !standsSo(t, standings) && !chance(wildness); tries++) {
            t = someThing();
        }
        return t;
    }

    private boolean standsSo(int t, String standings) {
        char how = world.spots.containsKey(t) ? world.spots.get(t).how() : 'N';
        return standings.indexOf(how) >= 0;
    }

    private int thingOfKind(int kind, String standings) {
        int t = thingThat(standings);
        for (int tries = 0; tries < 40 && !plain.kind(t, kind); tries++) {
            t = thingThat(standings);
        }
        return t;
    }

    private int someBag(String standings, boolean open) {
        int t = thingThat(standings);
        for (int tries = 0; tries < 40; tries++) {
            if (plain.bag(t) && world.sealed.containsKey(t) != open) {
                return t;
            }
            t = thingThat(standings);
        }
        return t;
    }

    private int someSeal() {
        int row = of(6);
        return 100 * row + of(Math.max(1, plain.rows[row]) + (chance(10) ? 1 : 0));
    }

    private boolean slip() {
        world = plain.world(Integer.MAX_VALUE, Integer.MAX_VALUE);
        int[] kinds = {1, 1, 1, 1, 2, 2, 3, 4, 4, 5, 6, 6, 6, 6, 6, 7, 8, 8, 9, 10, 11, 11, 12, 13, 14, 15, 15, 16,
            17, 18, 18, 18, 19, 19};
        int kind = chance(wildness / 2) ? wild() : kinds[of(kinds.length)];
        int t = someThing();
        int c = chance(wildness) ? wild() : of(30);
        int d = chance(wildness) ? wild() : of(30);
        int number;
        switch (kind) {
            case 1:
                t = thingThat("N");
                c = somePlace();
                d = someHand();
                break;
            case 2:
                t = thingThat("P");
                c = someHand();
                d = of(8);
                break;
            case 3:
            case 4:
                t = thingThat("H");
                number = world.spots.containsKey(t) && !chance(wildness) ? world.spots.get(t).number() : someHand();
                c = kind == 3 ? number : somePlace();
                d = kind == 3 ? someHand() : number;
                break;
            case 5:
                t = thingThat("P");
                c = somePlace();
                break;
            case 6:
                c = someBag("PH", true);
                t = thingThat(world.is(c, 'H') ? "H" : "P");
                break;
            case 7:
                t = thingThat("B");
                c = somePlace();
                break;
            case 8:
                t = someBag("PHB", true);
                c = someSeal();
                break;
            case 9:
            case 10:
                t = someBag("PHB", kind == 10 && chance(40));
                c = chance(60) ? world.sealed.getOrDefault(t, -1) : someSeal();
                break;
            case 11:
                t = thingThat("PHB");
                c = thingOfKind(2, "N");
                d = plain.kind(t, 0) || plain.bag(t) || plain.kind(t, 2) ? 1 + of(world.weight(t) / 2 + 2) : of(3);
                break;
            case 12:
                t = thingThat("PHB");
                c = thingOfKind(3, "N");
                break;
            case 13:
                t = thingThat("PHB");
                d = of(10);
                break;
            case 14:
                t = thingThat("PHB");
                c = of(10);
                break;
            case 16:
            case 17:
                t = thingThat("PHB");
                c = chance(70) ? of(3) : of(33);
                break;
            case 15:
                t = thingThat("PHB");
                break;
            case 18:
                t = thingThat("P");
                for (int tries = 0; tries < 40 && !world.doomed.contains(t); tries++) {
                    t = thingThat("P");
                }
                c = someHand();
                break;
            case 19:
                t = thingThat("PHB");
                boolean toPlace = chance(50);
                c = toPlace ? somePlace() : -1;
                d = toPlace ? -1 : someHand();
                break;
            default:
                break;
        }
        return write(kind, t, c, d);
    }

    private boolean write(int kind, int t, int c, int d) {
        int a = someKeeper();
        int b = chance(20) ? someHand() : someKeeper();
        int minute = someMinute();
        int want = plain.slip(kind, t, a, b, c, d, minute);
        if (want != -1) {
            takenByKind[kind]++;
        }
        String call = "slip(" + kind + ", " + t + ", " + a + ", " + b + ", " + c + ", " + d + ", " + minute + ")";
        return same(call, room.slip(kind, t, a, b, c, d, minute), want) && faults();
    }

    private boolean faults() {
        return same("fault(0)", room.fault(0), plain.fault(0)) && same("fault(1)", room.fault(1), plain.fault(1));
    }

    private boolean handings() {
        world = plain.world(Integer.MAX_VALUE, Integer.MAX_VALUE);
        int draw = of(10);
        if (draw < 3) {
            int t = thingThat("H");
            int giver = world.is(t, 'H') && !chance(wildness) ? world.spots.get(t).number() : someHand();
            int taker = someHand();
            int minute = someMinute();
            String call = "handing(" + t + ", " + giver + ", " + taker + ", " + minute + ")";
            return same(call, room.handing(t, giver, taker, minute), plain.handing(t, giver, taker, minute));
        }
        int h = chance(wildness) || plain.handings.isEmpty() ? wild() : of(plain.handings.size());
        boolean known = h >= 0 && h < plain.handings.size();
        int hand = someHand();
        int minute = someMinute();
        if (known && !chance(wildness)) {
            PlainRoom.Handing told = plain.handings.get(h);
            hand = chance(50) ? told.giver : told.taker;
            minute = Math.min(plain.now, told.minute + of(50));
        }
        if (draw == 3) {
            return same("no(" + h + ", " + hand + ")", room.no(h, hand), plain.no(h, hand));
        }
        String call = "yes(" + h + ", " + hand + ", " + minute + ")";
        return same(call, room.yes(h, hand, minute), plain.yes(h, hand, minute)) && faults();
    }

    private boolean image() {
        int draw = of(20);
        if (draw < 3) {
            return same("freeze()", room.freeze(), plain.freeze());
        }
        if (draw < 6) {
            return same("check()", room.check(), plain.check());
        }
        if (draw < 9) {
            return same("thaw()", room.thaw(), plain.thaw());
        }
        int size = plain.image == null ? 0 : plain.image.size();
        int i = size == 0 || chance(wildness) ? wild() : of(size);
        int what = chance(wildness) ? wild() : of(7);
        int v = chance(wildness) ? wild() : of(24);
        if (what == 6 && i >= 0 && i < size && !chance(wildness)) {
            v = Math.max(0, plain.image.get(i).minute() - of(100));
        }
        return same("alter(" + i + ", " + what + ", " + v + ")", room.alter(i, what, v), plain.alter(i, what, v));
    }

    private boolean ask() {
        int t = someThing();
        int i = chance(wildness) ? wild() : of(6);
        int what = chance(wildness) ? wild() : of(9);
        switch (of(9)) {
            case 0:
                return same("about(" + what + ")", room.about(what), plain.about(what));
            case 1:
                int n = chance(wildness) ? wild() : of(Math.max(1, plain.slips.size()));
                return same("slipOf(" + n + ", " + what + ")", room.slipOf(n, what), plain.slipOf(n, what));
            case 2:
                return same("breaks(" + t + ")", room.breaks(t), plain.breaks(t));
            case 3:
                return same("due(" + what + ", " + i + ")", room.due(what, i), plain.due(what, i));
            case 4:
                int end = of(4);
                return same("gap(" + t + ", " + i / 2 + ", " + end + ")", room.gap(t, i / 2, end),
                        plain.gap(t, i / 2, end));
            case 5:
                return same("chain(" + t + ", " + i + ")", room.chain(t, i), plain.chain(t, i));
            default:
                return askWhere(t);
        }
    }

    private boolean askWhere(int t) {
        int minute = chance(50) ? plain.now : of(plain.now + 2);
        int known = chance(50) ? plain.now : of(plain.now + 2);
        if (chance(60) && !plain.slips.isEmpty()) {
            PlainRoom.Slip near = plain.slips.get(of(plain.slips.size()));
            minute = near.minute() - of(2);
            known = chance(50) ? near.written() - of(2) : plain.now;
        }
        boolean all = true;
        for (int what = -1; what <= 12 && all; what++) {
            all = same("where(" + t + ", " + minute + ", " + known + ", " + what + ")",
                    room.where(t, minute, known, what), plain.where(t, minute, known, what));
        }
        return all;
    }
}
