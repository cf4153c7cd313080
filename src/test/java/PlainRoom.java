import java.util.ArrayList;
import java.util.Comparator;
import java.util.HashMap;
import java.util.HashSet;
import java.util.List;
import java.util.Map;
import java.util.Set;

/**
 * The document told a second time, with the Java library and no care for speed: every answer is
 * worked out from the list of slips alone. ModelTest holds the class against it.
 */
final class PlainRoom {
    record Slip(int number, int kind, int thing, int a, int b, int c, int d, int minute, int written) {
        Slip with(int what, int v) {
            return new Slip(number, what == 0 ? v : kind, what == 1 ? v : thing, what == 2 ? v : a,
                    what == 3 ? v : b, what == 4 ? v : c, what == 5 ? v : d, what == 6 ? v : minute, written);
        }
    }

    record Spot(char how, int number) {
    }

    static final class Handing {
        int thing;
        int giver;
        int taker;
        int minute;
        boolean ended;
        final Map<Integer, Integer> said = new HashMap<>();
    }

    /** How all stands: a thing without a spot was never KEPT. */
    final class World {
        final Map<Integer, Spot> spots = new HashMap<>();
        final Map<Integer, Integer> weights = new HashMap<>();
        final Map<Integer, Integer> sealed = new HashMap<>();
        final Map<Integer, Integer> due = new HashMap<>();
        final Map<Integer, Integer> until = new HashMap<>();
        final Map<Integer, Integer> of = new HashMap<>();
        final Map<Integer, Set<Integer>> trials = new HashMap<>();
        final Set<Integer> doomed = new HashSet<>();
        final Set<Integer> usedSeals = new HashSet<>();

        boolean kept(int t) {
            return spots.containsKey(t) && spots.get(t).how() != 'X';
        }

        boolean is(int t, char how) {
            return spots.containsKey(t) && spots.get(t).how() == how;
        }

        boolean empty(int place) {
            return place >= 0 && place < 12 * shelves.size() && !spots.containsValue(new Spot('P', place));
        }

        boolean goodPlace(int t, int place) {
            return empty(place) && (kinds.get(t) != 4 || shelves.get(place / 12));
        }

        List<Integer> bagsAround(int t) {
            List<Integer> row = new ArrayList<>();
            int at = t;
            while (is(at, 'B')) {
                at = spots.get(at).number();
                row.add(at);
            }
            return row;
        }

        List<Integer> content(int bag) {
            List<Integer> row = new ArrayList<>();
            for (int t = 0; t < kinds.size(); t++) {
                if (new Spot('B', bag).equals(spots.get(t))) {
                    row.add(t);
                }
            }
            return row;
        }

        boolean free(int t) {
            return bagsAround(t).stream().noneMatch(sealed::containsKey);
        }

        int weight(int t) {
            return weights.getOrDefault(t, firstWeights.get(t));
        }

        boolean comesFrom(int x, int t) {
            return of.containsKey(x) && (of.get(x) == t || comesFrom(of.get(x), t));
        }

        boolean done(Slip s) {
            int t = s.thing();
            if (s.kind() < 1 || s.kind() > 19 || t < 0 || t >= kinds.size()) {
                return false;
            }
            if (s.minute() < 0 || s.minute() > s.written() || !keepersOf(s)) {
                return false;
            }
            if (s.kind() != 1 && !kept(t)) {
                return false;
            }
            return s.kind() <= 7 ? moved(s) : s.kind() <= 13 ? handled(s) : ordered(s);
        }

        private boolean keepersOf(Slip s) {
            int t = s.thing();
            boolean money = kinds.get(t) == 5;
            boolean one = s.kind() <= 12 && s.kind() != 3 && s.kind() < 8 || s.kind() == 11 || s.kind() == 12
                    || s.kind() == 18 || money && (s.kind() == 8 || s.kind() == 9);
            boolean two = money || s.kind() == 18;
            if (s.kind() == 6 && bag(s.c()) && kinds.get(s.c()) == 5) {
                two = true;
            }
            if (s.kind() == 7 && is(t, 'B') && kinds.get(spots.get(t).number()) == 5) {
                two = true;
            }
            return !one || keeper(s.a()) && (!two || keeper(s.b()) && s.a() != s.b());
        }

        private boolean moved(Slip s) {
            int t = s.thing();
            int c = s.c();
            int d = s.d();
            Spot at = spots.get(t);
            switch (s.kind()) {
                case 1:
                    return at == null && kinds.get(t) != 2 && kinds.get(t) != 3 && hand(d) && goodPlace(t, c)
                            && lay(t, 'P', c);
                case 2:
                    return at.how() == 'P' && hand(c) && d >= 0 && d <= 100000 && lay(t, 'H', c) && put(due, t, d);
                case 3:
                    return at.equals(new Spot('H', c)) && hand(d) && c != d && lay(t, 'H', d);
                case 4:
                    if (!at.equals(new Spot('H', d)) || !goodPlace(t, c)) {
                        return false;
                    }
                    due.remove(t);
                    return lay(t, 'P', c);
                case 5:
                    return at.how() == 'P' && goodPlace(t, c) && lay(t, 'P', c);
                case 6:
                    return mayGoInto(t, c) && lay(t, 'B', c);
                default:
                    if (at.how() != 'B' || sealed.containsKey(at.number())) {
                        return false;
                    }
                    Spot bagAt = spots.get(at.number());
                    if (bagAt.how() == 'H') {
                        return lay(t, 'H', bagAt.number());
                    }
                    return bagAt.how() == 'P' && goodPlace(t, c) && lay(t, 'P', c);
            }
        }

        private boolean mayGoInto(int t, int c) {
            if (!bag(c) || !kept(c) || c == t || sealed.containsKey(c) || bagsAround(c).contains(t)) {
                return false;
            }
            Spot at = spots.get(t);
            boolean together = at.how() == 'P' && is(c, 'P') || at.how() == 'H' && at.equals(spots.get(c));
            if (!together || content(c).size() >= 8) {
                return false;
            }
            for (int x = 0; x < kinds.size(); x++) {
                List<Integer> around = bagsAround(x);
                if ((x == t || around.contains(t)) && around.size() + 1 > 4) {
                    return false;
                }
            }
            return true;
        }

        private boolean handled(Slip s) {
            int t = s.thing();
            int c = s.c();
            int d = s.d();
            switch (s.kind()) {
                case 8:
                    return bag(t) && !sealed.containsKey(t) && givenOut(c) && usedSeals.add(c) && put(sealed, t, c);
                case 9:
                    if (!bag(t) || !sealed.containsKey(t) || c < 0 || c > 999) {
                        return false;
                    }
                    sealed.remove(t);
                    return true;
                case 10:
                    return bag(t) && c >= -1 && c <= 999;
                case 11:
                    return free(t) && kind(c, 2) && !spots.containsKey(c) && d >= 1 && d <= weight(t)
                            && put(weights, c, d) && put(weights, t, weight(t) - d) && put(of, c, t)
                            && lay(c, 'H', s.a());
                case 12:
                    return free(t) && kind(c, 3) && !spots.containsKey(c) && put(of, c, t) && lay(c, 'H', s.a());
                default:
                    return free(t) && d >= 0 && d <= weight(t) && put(weights, t, weight(t) - d);
            }
        }

        private boolean ordered(Slip s) {
            int t = s.thing();
            int c = s.c();
            int d = s.d();
            Set<Integer> going = trials.computeIfAbsent(t, x -> new HashSet<>());
            switch (s.kind()) {
                case 14:
                    return c >= 0 && c <= 100000 && put(until, t, c);
                case 15:
                    doomed.add(t);
                    return true;
                case 16:
                    return c >= 0 && c <= 30 && going.add(c);
                case 17:
                    return going.remove(c);
                case 18:
                    return mayBeDestroyed(s, going) && lay(t, 'X', -1);
                default:
                    if (d == -1) {
                        return goodPlace(t, c) && lay(t, 'P', c);
                    }
                    return c == -1 && hand(d) && !spots.get(t).equals(new Spot('H', d)) && lay(t, 'H', d);
            }
        }

        private boolean mayBeDestroyed(Slip s, Set<Integer> going) {
            int t = s.thing();
            if (!hand(s.c()) || s.c() == s.a() || s.c() == s.b() || !is(t, 'P') || !doomed.contains(t)) {
                return false;
            }
            if (until.getOrDefault(t, 0) > s.minute() / 1440 || !going.isEmpty() || !content(t).isEmpty()) {
                return false;
            }
            for (int x = 0; x < kinds.size(); x++) {
                if (is(x, 'H') && comesFrom(x, t)) {
                    return false;
                }
            }
            return true;
        }

        private boolean lay(int t, char how, int number) {
            spots.put(t, new Spot(how, number));
            return true;
        }

        private boolean put(Map<Integer, Integer> map, int key, int value) {
            map.put(key, value);
            return true;
        }

        int how(int t) {
            return spots.containsKey(t) ? "PHBX".indexOf(spots.get(t).how()) + 1 : 0;
        }

        int number(int t) {
            return spots.containsKey(t) ? spots.get(t).number() : -1;
        }
    }

    final List<Boolean> hands = new ArrayList<>();
    final List<Boolean> shelves = new ArrayList<>();
    final int[] rows = {-1, -1, -1, -1, -1, -1};
    final List<Integer> kinds = new ArrayList<>();
    final List<Integer> firstWeights = new ArrayList<>();
    final List<Handing> handings = new ArrayList<>();
    List<Slip> slips = new ArrayList<>();
    List<Slip> image;
    int now;
    int fault0 = -1;
    int fault1 = -1;

    boolean hand(int h) {
        return h >= 0 && h < hands.size();
    }

    boolean keeper(int h) {
        return hand(h) && hands.get(h);
    }

    boolean kind(int t, int kind) {
        return t >= 0 && t < kinds.size() && kinds.get(t) == kind;
    }

    boolean bag(int t) {
        return kind(t, 1) || kind(t, 4) || kind(t, 5);
    }

    boolean givenOut(int seal) {
        return seal >= 0 && seal < 600 && seal % 100 < rows[seal / 100];
    }

    static List<Slip> inOrder(List<Slip> row) {
        List<Slip> sorted = new ArrayList<>(row);
        sorted.sort(Comparator.comparingInt(Slip::minute).thenComparingInt(Slip::number));
        return sorted;
    }

    int firstUndone(List<Slip> row) {
        World world = new World();
        for (Slip s : inOrder(row)) {
            if (!world.done(s)) {
                return s.number();
            }
        }
        return -1;
    }

    World world(int minute, int known) {
        World world = new World();
        for (Slip s : inOrder(slips)) {
            if (s.minute() <= minute && s.written() <= known) {
                world.done(s);
            }
        }
        return world;
    }

    int addHand(boolean keeper) {
        if (hands.size() == 20) {
            return -1;
        }
        hands.add(keeper);
        return hands.size() - 1;
    }

    int addShelf(boolean cold) {
        if (shelves.size() == 8) {
            return -1;
        }
        shelves.add(cold);
        return shelves.size() - 1;
    }

    boolean seals(int row, int many) {
        if (row < 0 || row > 5 || many < -1 || many > 50) {
            return false;
        }
        int before = rows[row];
        rows[row] = many;
        for (Slip s : slips) {
            if (s.kind() == 8 && !givenOut(s.c())) {
                rows[row] = before;
                return false;
            }
        }
        return true;
    }

    int thing(int kind, int weight) {
        if (kind < 0 || kind > 5 || weight < 0 || weight > 1000000 || kinds.size() == 60) {
            return -1;
        }
        if ((kind == 2 || kind == 3) && weight > 0) {
            return -1;
        }
        kinds.add(kind);
        firstWeights.add(weight);
        return kinds.size() - 1;
    }

    int pass(int minutes) {
        if (minutes < 0 || minutes > 100000 || now + minutes > 100000000) {
            return -1;
        }
        return now += minutes;
    }

    int slip(int kind, int thing, int a, int b, int c, int d, int minute) {
        fault1 = -1;
        fault0 = slips.size() == 400 ? 1 : kind < 1 || kind > 19 ? 2 : thing < 0 || thing >= kinds.size() ? 3
                : minute < 0 || minute > now ? 4 : 0;
        if (fault0 != 0) {
            return -1;
        }
        List<Slip> all = new ArrayList<>(slips);
        all.add(new Slip(slips.size(), kind, thing, a, b, c, d, minute, now));
        fault1 = firstUndone(all);
        if (fault1 != -1) {
            fault0 = 5;
            return -1;
        }
        slips = all;
        return slips.size() - 1;
    }

    int fault(int what) {
        return what == 0 ? fault0 : what == 1 ? fault1 : -1;
    }

    int handing(int thing, int giver, int taker, int minute) {
        if (thing < 0 || thing >= kinds.size() || !hand(giver) || !hand(taker) || giver == taker) {
            return -1;
        }
        if (minute < 0 || minute > now || handings.size() == 60) {
            return -1;
        }
        Handing h = new Handing();
        h.thing = thing;
        h.giver = giver;
        h.taker = taker;
        h.minute = minute;
        handings.add(h);
        return handings.size() - 1;
    }

    int yes(int handing, int hand, int minute) {
        if (handing < 0 || handing >= handings.size()) {
            return -1;
        }
        Handing h = handings.get(handing);
        if (h.ended || hand != h.giver && hand != h.taker || h.said.containsKey(hand)) {
            return -1;
        }
        if (minute < h.minute || minute > now) {
            return -1;
        }
        h.said.put(hand, minute);
        if (h.said.size() < 2) {
            return 0;
        }
        int later = Math.max(h.said.get(h.giver), h.said.get(h.taker));
        boolean late = later > h.minute + 30;
        if (slip(3, h.thing, -1, -1, h.giver, h.taker, late ? later : h.minute) == -1) {
            h.said.remove(hand);
            return 3;
        }
        h.ended = true;
        return late ? 2 : 1;
    }

    boolean no(int handing, int hand) {
        if (handing < 0 || handing >= handings.size()) {
            return false;
        }
        Handing h = handings.get(handing);
        if (h.ended || hand != h.giver && hand != h.taker) {
            return false;
        }
        h.ended = true;
        return true;
    }

    int about(int what) {
        int[] row = {hands.size(), shelves.size(), kinds.size(), slips.size(), now, handings.size(),
            image == null ? -1 : image.size()};
        return what < 0 || what > 6 ? -1 : row[what];
    }

    int slipOf(int i, int what) {
        if (i < 0 || i >= slips.size() || what < 0 || what > 8) {
            return -1;
        }
        Slip s = slips.get(i);
        int late = 0;
        for (Slip other : slips) {
            if (other.number() < i && other.minute() > s.minute()) {
                late = 1;
            }
        }
        int[] row = {s.kind(), s.thing(), s.a(), s.b(), s.c(), s.d(), s.minute(), s.written(), late};
        return row[what];
    }

    int where(int thing, int minute, int known, int what) {
        if (thing < 0 || thing >= kinds.size() || what < 0 || what > 11) {
            return -1;
        }
        World w = world(minute, known);
        List<Integer> around = w.bagsAround(thing);
        int outer = around.isEmpty() ? thing : around.get(around.size() - 1);
        int[] row = {w.how(thing), w.number(thing), w.weight(thing), w.sealed.getOrDefault(thing, -1), w.how(outer),
            w.number(outer), w.due.getOrDefault(thing, -1), w.until.getOrDefault(thing, -1),
            w.doomed.contains(thing) ? 1 : 0, w.trials.getOrDefault(thing, Set.of()).size(), w.content(thing).size(),
            w.of.getOrDefault(thing, -1)};
        return row[what];
    }

    private List<Slip> chainOf(int thing) {
        List<Slip> ordered = inOrder(slips);
        List<Slip> row = new ArrayList<>();
        for (Slip s : ordered) {
            if ((s.kind() == 11 || s.kind() == 12) && s.c() == thing) {
                for (Slip earlier : chainOf(s.thing())) {
                    if (ordered.indexOf(earlier) < ordered.indexOf(s)) {
                        row.add(earlier);
                    }
                }
                row.add(s);
            }
        }
        for (Slip s : ordered) {
            if (s.thing() == thing && (s.kind() <= 7 || s.kind() >= 18)) {
                row.add(s);
            }
        }
        return row;
    }

    int chain(int thing, int i) {
        if (thing < 0 || thing >= kinds.size()) {
            return -1;
        }
        List<Slip> row = chainOf(thing);
        return i < 0 || i >= row.size() ? -1 : row.get(i).number();
    }

    int gap(int thing, int i, int what) {
        if (thing < 0 || thing >= kinds.size() || i < 0 || what < 0 || what > 3) {
            return -1;
        }
        List<int[]> gaps = new ArrayList<>();
        List<Slip> row = chainOf(thing);
        for (int k = 1; k < row.size(); k++) {
            Slip from = row.get(k - 1);
            Slip to = row.get(k);
            if (to.kind() == 19) {
                gaps.add(new int[] {from.minute(), to.minute(), from.number(), to.number()});
            }
        }
        return i >= gaps.size() ? -1 : gaps.get(i)[what];
    }

    int breaks(int bag) {
        if (!bag(bag)) {
            return -1;
        }
        World w = new World();
        for (Slip s : inOrder(slips)) {
            boolean seen = s.thing() == bag && (s.kind() == 9 || s.kind() == 10);
            if (seen && s.c() != w.sealed.getOrDefault(bag, -1)) {
                return s.number();
            }
            w.done(s);
        }
        return -1;
    }

    int due(int day, int i) {
        World w = world(Integer.MAX_VALUE, Integer.MAX_VALUE);
        List<Integer> row = new ArrayList<>();
        for (int t = 0; t < kinds.size(); t++) {
            Integer asked = day;
            if (w.kept(t) && (asked.equals(w.due.get(t)) || asked.equals(w.until.get(t)))) {
                row.add(t);
            }
        }
        return i < 0 || i >= row.size() ? -1 : row.get(i);
    }

    int freeze() {
        image = new ArrayList<>(slips);
        return image.size();
    }

    boolean alter(int i, int what, int v) {
        if (image == null || i < 0 || i >= image.size() || what < 0 || what > 6) {
            return false;
        }
        image.set(i, image.get(i).with(what, v));
        return true;
    }

    int check() {
        return image == null ? -2 : firstUndone(image);
    }

    boolean thaw() {
        if (image == null || firstUndone(image) != -1) {
            return false;
        }
        slips = new ArrayList<>(image);
        return true;
    }
}
