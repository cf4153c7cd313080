import java.util.Arrays;

/**
 * A room in which things are kept for courts. Slips tell what was done with each thing; the state
 * is never stored by itself but told anew from the slips in their ORDER, because a late slip may
 * change what every later one finds. Words in capitals are those of the document.
 */
public final class CustodyRoom {
    public static final int NONE = -1;

    private static final int HANDS = 20;
    private static final int SHELVES = 8;
    private static final int PLACES_A_SHELF = 12;
    private static final int SEAL_ROWS = 6;
    private static final int SEALS_A_ROW = 50;
    private static final int SEAL_STEP = 100;
    private static final int THINGS = 60;
    private static final int SLIPS = 400;
    private static final int HANDINGS = 60;

    private static final int HEAVIEST = 1000000;
    private static final int LONGEST_PASS = 100000;
    private static final int LATEST_NOW = 100000000;
    private static final int LAST_DAY = 100000;
    private static final int LAST_SEEN = 999;
    private static final int LAST_TRIAL = 30;
    private static final int THINGS_A_BAG = 8;
    private static final int BAGS_AROUND = 4;
    private static final int MINUTES_A_DAY = 1440;
    private static final int MINUTES_IN_TIME = 30;

    private static final int A_BAG = 1;
    private static final int A_SAMPLE = 2;
    private static final int A_COPY = 3;
    private static final int A_COLD_BAG = 4;
    private static final int A_MONEY_BAG = 5;

    private static final int IN = 1;
    private static final int OUT = 2;
    private static final int HAND = 3;
    private static final int BACK = 4;
    private static final int PUT = 5;
    private static final int INTO = 6;
    private static final int FROM = 7;
    private static final int CLOSE = 8;
    private static final int UNSEAL = 9;
    private static final int LOOK = 10;
    private static final int PART = 11;
    private static final int COPY = 12;
    private static final int WEIGH = 13;
    private static final int KEEP = 14;
    private static final int DESTROY = 15;
    private static final int TRIAL = 16;
    private static final int OVER = 17;
    private static final int DESTROYED = 18;
    private static final int FOUND = 19;

    private static final int CELL_KIND = 0;
    private static final int CELL_THING = 1;
    private static final int CELL_A = 2;
    private static final int CELL_B = 3;
    private static final int CELL_C = 4;
    private static final int CELL_D = 5;
    private static final int CELL_MINUTE = 6;
    private static final int CELL_WRITTEN = 7;
    private static final int CELLS = 8;
    private static final int ASKED_LATE = 8;

    private static final int NOWHERE = 0;
    private static final int AT_PLACE = 1;
    private static final int IN_HAND = 2;
    private static final int IN_BAG = 3;
    private static final int GONE = 4;

    private static final int NO_FAULT = 0;
    private static final int FAULT_FULL = 1;
    private static final int FAULT_KIND = 2;
    private static final int FAULT_THING = 3;
    private static final int FAULT_MINUTE = 4;
    private static final int FAULT_NOT_TAKEN = 5;

    private static final int YES_WAITS = 0;
    private static final int YES_WRITTEN = 1;
    private static final int YES_LATE = 2;
    private static final int YES_NOT_TAKEN = 3;

    private static final int WITHOUT_IMAGE = -2;

    private final Stock stock;
    private final Slips slips;
    private final Slips image;
    private final Standing standing;
    private final Links links;
    private final Handing[] handings;
    private final int[] draft;
    private int handingCount;
    private boolean frozen;
    private int now;
    private int faultTold;
    private int slipBlamed;

    public CustodyRoom() {
        stock = new Stock();
        slips = new Slips();
        image = new Slips();
        standing = new Standing(stock);
        links = new Links(slips);
        handings = new Handing[HANDINGS];
        draft = new int[CELLS];
        faultTold = NONE;
        slipBlamed = NONE;
    }

    public int hand(boolean keeper) {
        return stock.addHand(keeper);
    }

    public int shelf(boolean cold) {
        return stock.addShelf(cold);
    }

    public boolean seals(int row, int many) {
        if (row < 0 || row >= SEAL_ROWS || many < NONE || many > SEALS_A_ROW) {
            return false;
        }
        if (slips.useSealBeyond(row, many)) {
            return false;
        }
        stock.giveOut(row, many);
        return true;
    }

    public int thing(int kind, int weight) {
        if (kind < 0 || kind > A_MONEY_BAG || weight < 0 || weight > HEAVIEST) {
            return NONE;
        }
        boolean weighedLater = kind == A_SAMPLE || kind == A_COPY;
        if (weighedLater && weight != 0) {
            return NONE;
        }
        return stock.addThing(kind, weight);
    }

    public int pass(int minutes) {
        if (minutes < 0 || minutes > LONGEST_PASS || minutes > LATEST_NOW - now) {
            return NONE;
        }
        now += minutes;
        return now;
    }

    public int slip(int kind, int thing, int a, int b, int c, int d, int minute) {
        return write(kind, thing, a, b, c, d, minute);
    }

    public int fault(int what) {
        switch (what) {
            case 0:
                return faultTold;
            case 1:
                return slipBlamed;
            default:
                return NONE;
        }
    }

    public int handing(int thing, int giver, int taker, int minute) {
        if (!stock.isThing(thing) || !stock.isHand(giver) || !stock.isHand(taker) || giver == taker) {
            return NONE;
        }
        if (minute < 0 || minute > now || handingCount >= HANDINGS) {
            return NONE;
        }
        handings[handingCount] = new Handing(thing, giver, taker, minute);
        handingCount++;
        return handingCount - 1;
    }

    public int yes(int handing, int hand, int minute) {
        Handing asked = findHanding(handing);
        if (asked == null || !asked.awaits(hand) || minute < asked.minute || minute > now) {
            return NONE;
        }
        asked.setYes(hand, minute);
        if (!asked.isAgreed()) {
            return YES_WAITS;
        }
        boolean late = asked.isLate();
        int told = late ? asked.laterYes() : asked.minute;
        if (write(HAND, asked.thing, NONE, NONE, asked.giver, asked.taker, told) == NONE) {
            asked.setYes(hand, NONE);
            return YES_NOT_TAKEN;
        }
        asked.ended = true;
        return late ? YES_LATE : YES_WRITTEN;
    }

    public boolean no(int handing, int hand) {
        Handing asked = findHanding(handing);
        if (asked == null || asked.ended || !asked.isBetween(hand)) {
            return false;
        }
        asked.ended = true;
        return true;
    }

    public int about(int what) {
        switch (what) {
            case 0:
                return stock.hands;
            case 1:
                return stock.shelves;
            case 2:
                return stock.things;
            case 3:
                return slips.count;
            case 4:
                return now;
            case 5:
                return handingCount;
            case 6:
                return frozen ? image.count : NONE;
            default:
                return NONE;
        }
    }

    public int slipOf(int i, int what) {
        if (!slips.has(i)) {
            return NONE;
        }
        if (what == ASKED_LATE) {
            return slips.isLate(i) ? 1 : 0;
        }
        return slips.cell(i, what);
    }

    public int where(int thing, int minute, int known, int what) {
        if (!stock.isThing(thing)) {
            return NONE;
        }
        standing.tellKnown(slips, minute, known);
        return standing.answer(thing, what);
    }

    public int chain(int thing, int i) {
        if (!stock.isThing(thing)) {
            return NONE;
        }
        links.follow(thing);
        return links.link(i);
    }

    public int gap(int thing, int i, int what) {
        if (!stock.isThing(thing)) {
            return NONE;
        }
        links.follow(thing);
        int end = links.endOfGap(i);
        if (end == NONE) {
            return NONE;
        }
        int from = links.link(end - 1);
        int to = links.link(end);
        switch (what) {
            case 0:
                return slips.cell(from, CELL_MINUTE);
            case 1:
                return slips.cell(to, CELL_MINUTE);
            case 2:
                return from;
            case 3:
                return to;
            default:
                return NONE;
        }
    }

    public int breaks(int bag) {
        return stock.isBag(bag) ? slips.firstBreak(bag) : NONE;
    }

    public int due(int day, int i) {
        if (day < 0 || i < 0) {
            return NONE;
        }
        standing.firstUndone(slips);
        return standing.thingOfDay(day, i);
    }

    public int freeze() {
        image.copyFrom(slips);
        frozen = true;
        return image.count;
    }

    public boolean alter(int i, int what, int v) {
        if (!frozen || !image.has(i) || what < CELL_KIND || what > CELL_MINUTE) {
            return false;
        }
        image.alterCell(i, what, v);
        return true;
    }

    public int check() {
        return frozen ? standing.firstUndone(image) : WITHOUT_IMAGE;
    }

    public boolean thaw() {
        if (!frozen || standing.firstUndone(image) != NONE) {
            return false;
        }
        slips.copyFrom(image);
        return true;
    }

    private Handing findHanding(int handing) {
        return handing < 0 || handing >= handingCount ? null : handings[handing];
    }

    /** The slip's number, or NONE; slip() and yes() both end here, so that fault() can tell of either. */
    private int write(int kind, int thing, int a, int b, int c, int d, int minute) {
        slipBlamed = NONE;
        faultTold = faultAhead(kind, thing, minute);
        if (faultTold != NO_FAULT) {
            return NONE;
        }
        draft[CELL_KIND] = kind;
        draft[CELL_THING] = thing;
        draft[CELL_A] = a;
        draft[CELL_B] = b;
        draft[CELL_C] = c;
        draft[CELL_D] = d;
        draft[CELL_MINUTE] = minute;
        draft[CELL_WRITTEN] = now;
        slips.add(draft);
        int undone = standing.firstUndone(slips);
        if (undone != NONE) {
            slips.dropLast();
            faultTold = FAULT_NOT_TAKEN;
            slipBlamed = undone;
            return NONE;
        }
        return slips.count - 1;
    }

    private int faultAhead(int kind, int thing, int minute) {
        if (slips.count >= SLIPS) {
            return FAULT_FULL;
        }
        if (kind < IN || kind > FOUND) {
            return FAULT_KIND;
        }
        if (!stock.isThing(thing)) {
            return FAULT_THING;
        }
        return minute < 0 || minute > now ? FAULT_MINUTE : NO_FAULT;
    }

    /** What the room has whatever the slips tell: hands, shelves, rows of seals, things. */
    private static final class Stock {
        private final boolean[] keeper = new boolean[HANDS];
        private final boolean[] cold = new boolean[SHELVES];
        private final int[] sealsGiven = new int[SEAL_ROWS];
        private final int[] kinds = new int[THINGS];
        private final int[] weights = new int[THINGS];
        private int hands;
        private int shelves;
        private int things;

        private Stock() {
            Arrays.fill(sealsGiven, NONE);
        }

        private int addHand(boolean isKeeper) {
            if (hands >= HANDS) {
                return NONE;
            }
            keeper[hands] = isKeeper;
            hands++;
            return hands - 1;
        }

        private int addShelf(boolean isCold) {
            if (shelves >= SHELVES) {
                return NONE;
            }
            cold[shelves] = isCold;
            shelves++;
            return shelves - 1;
        }

        private int addThing(int kind, int weight) {
            if (things >= THINGS) {
                return NONE;
            }
            kinds[things] = kind;
            weights[things] = weight;
            things++;
            return things - 1;
        }

        private void giveOut(int row, int many) {
            if (row >= 0 && row < SEAL_ROWS) {
                sealsGiven[row] = many;
            }
        }

        private boolean isHand(int hand) {
            return hand >= 0 && hand < hands;
        }

        private boolean isKeeper(int hand) {
            return hand >= 0 && hand < hands && keeper[hand];
        }

        private boolean isPlace(int place) {
            return place >= 0 && place < shelves * PLACES_A_SHELF;
        }

        private boolean isColdPlace(int place) {
            return place >= 0 && place < shelves * PLACES_A_SHELF && cold[place / PLACES_A_SHELF];
        }

        private boolean isGivenOut(int seal) {
            if (seal < 0 || seal >= SEAL_ROWS * SEAL_STEP) {
                return false;
            }
            return seal % SEAL_STEP < sealsGiven[seal / SEAL_STEP];
        }

        private boolean isThing(int thing) {
            return thing >= 0 && thing < things;
        }

        private boolean isOfKind(int thing, int kind) {
            return thing >= 0 && thing < things && kinds[thing] == kind;
        }

        private boolean isBag(int thing) {
            return isOfKind(thing, A_BAG) || isOfKind(thing, A_COLD_BAG) || isOfKind(thing, A_MONEY_BAG);
        }
    }

    /** A row of slips by number, and their numbers in ORDER. */
    private static final class Slips {
        private final int[] cells = new int[SLIPS * CELLS];
        private final int[] order = new int[SLIPS];
        private int count;

        private boolean has(int i) {
            return i >= 0 && i < count;
        }

        private int cell(int i, int what) {
            if (!has(i) || what < 0 || what >= CELLS) {
                return NONE;
            }
            return cells[i * CELLS + what];
        }

        /** The number of the slip that is k-th in ORDER. */
        private int inOrder(int k) {
            return has(k) ? order[k] : NONE;
        }

        private void add(int[] row) {
            if (count >= SLIPS || row.length < CELLS) {
                return;
            }
            System.arraycopy(row, 0, cells, count * CELLS, CELLS);
            count++;
            putInOrder(count - 1);
        }

        private void dropLast() {
            if (count <= 0) {
                return;
            }
            count--;
            boolean found = false;
            for (int k = 0; k < count; k++) {
                found = found || order[k] == count;
                if (found) {
                    order[k] = order[k + 1];
                }
            }
        }

        /** Puts slip i among those of lower numbers, which stand in ORDER already. */
        private void putInOrder(int i) {
            if (!has(i)) {
                return;
            }
            int minute = cell(i, CELL_MINUTE);
            int k = i;
            while (k > 0 && cell(order[k - 1], CELL_MINUTE) > minute) {
                order[k] = order[k - 1];
                k--;
            }
            order[k] = i;
        }

        private void alterCell(int i, int what, int v) {
            if (!has(i) || what < 0 || what >= CELLS) {
                return;
            }
            cells[i * CELLS + what] = v;
            if (what == CELL_MINUTE) {
                for (int n = 0; n < count; n++) {
                    putInOrder(n);
                }
            }
        }

        private void copyFrom(Slips other) {
            count = other.count;
            System.arraycopy(other.cells, 0, cells, 0, count * CELLS);
            System.arraycopy(other.order, 0, order, 0, count);
        }

        private boolean isLate(int i) {
            for (int n = 0; n < i; n++) {
                if (cell(n, CELL_MINUTE) > cell(i, CELL_MINUTE)) {
                    return true;
                }
            }
            return false;
        }

        /** Whether a seal was put on that the row would not have with so many numbers. */
        private boolean useSealBeyond(int row, int many) {
            for (int i = 0; i < count; i++) {
                int seal = cell(i, CELL_C);
                boolean ofRow = cell(i, CELL_KIND) == CLOSE && seal / SEAL_STEP == row;
                if (ofRow && seal % SEAL_STEP >= many) {
                    return true;
                }
            }
            return false;
        }

        private int firstBreak(int bag) {
            int seal = NONE;
            for (int k = 0; k < count; k++) {
                int i = order[k];
                if (cell(i, CELL_THING) != bag) {
                    continue;
                }
                int kind = cell(i, CELL_KIND);
                int told = cell(i, CELL_C);
                if ((kind == UNSEAL || kind == LOOK) && told != seal) {
                    return i;
                }
                if (kind == CLOSE) {
                    seal = told;
                } else if (kind == UNSEAL) {
                    seal = NONE;
                }
            }
            return NONE;
        }

        private boolean isBirth(int i, int thing) {
            int kind = cell(i, CELL_KIND);
            return (kind == PART || kind == COPY) && cell(i, CELL_C) == thing;
        }

        private boolean isMoveOf(int i, int thing) {
            int kind = cell(i, CELL_KIND);
            boolean moves = (kind >= IN && kind <= FROM) || kind == DESTROYED || kind == FOUND;
            return moves && cell(i, CELL_THING) == thing;
        }
    }

    /**
     * THE CHAIN of one thing at a time, held from its end: going back from the last slip, the one by
     * which a sample or copy came leads over to what it is of, just as far as that stands ahead.
     */
    private static final class Links {
        private final Slips slips;
        private final int[] backward = new int[SLIPS];
        private int length;

        private Links(Slips slips) {
            this.slips = slips;
        }

        private void follow(int thing) {
            length = 0;
            int followed = thing;
            for (int k = slips.count - 1; k >= 0; k--) {
                int i = slips.inOrder(k);
                if (slips.isBirth(i, followed)) {
                    append(i);
                    followed = slips.cell(i, CELL_THING);
                } else if (slips.isMoveOf(i, followed)) {
                    append(i);
                }
            }
        }

        private void append(int i) {
            if (length < SLIPS) {
                backward[length] = i;
                length++;
            }
        }

        private int link(int i) {
            return i >= 0 && i < length ? backward[length - 1 - i] : NONE;
        }

        /** Where in the CHAIN the slip stands that ends GAP i, NONE without. */
        private int endOfGap(int i) {
            int left = i;
            for (int k = 1; k < length && left >= 0; k++) {
                if (slips.cell(link(k), CELL_KIND) == FOUND) {
                    if (left == 0) {
                        return k;
                    }
                    left--;
                }
            }
            return NONE;
        }
    }

    /**
     * How all things stand behind the slips that were told so far. The letters t, a, b, c, d are the
     * document's, of the slip that is being told. A thing's holder is the number of the place, hand
     * or bag that its standing names.
     */
    private static final class Standing {
        private final Stock stock;
        private final int[] how = new int[THINGS];
        private final int[] holder = new int[THINGS];
        private final int[] weight = new int[THINGS];
        private final int[] seal = new int[THINGS];
        private final int[] dueDay = new int[THINGS];
        private final int[] keepDay = new int[THINGS];
        private final int[] doomed = new int[THINGS];
        private final int[] trials = new int[THINGS];
        private final int[] inside = new int[THINGS];
        private final int[] origin = new int[THINGS];
        private final int[] lying = new int[SHELVES * PLACES_A_SHELF];
        private final int[] sealUsed = new int[SEAL_ROWS * SEAL_STEP];
        private int t;
        private int a;
        private int b;
        private int c;
        private int d;
        private int day;

        private Standing(Stock stock) {
            this.stock = stock;
        }

        /** Tells slips in ORDER up to the first that can't be DONE: that one, NONE if all can. */
        private int firstUndone(Slips slips) {
            clear();
            for (int k = 0; k < slips.count; k++) {
                int i = slips.inOrder(k);
                if (!tell(slips, i)) {
                    return i;
                }
            }
            return NONE;
        }

        /** Tells the slips up to a minute that were written till another; leaves out what can't be DONE. */
        private void tellKnown(Slips slips, int minute, int known) {
            clear();
            for (int k = 0; k < slips.count; k++) {
                int i = slips.inOrder(k);
                if (slips.cell(i, CELL_MINUTE) <= minute && slips.cell(i, CELL_WRITTEN) <= known) {
                    tell(slips, i);
                }
            }
        }

        private int answer(int thing, int what) {
            if (!stock.isThing(thing)) {
                return NONE;
            }
            switch (what) {
                case 0:
                    return how[thing];
                case 1:
                    return holder[thing];
                case 2:
                    return weight[thing];
                case 3:
                    return seal[thing];
                case 4:
                    return how[outermost(thing)];
                case 5:
                    return holder[outermost(thing)];
                case 6:
                    return dueDay[thing];
                case 7:
                    return keepDay[thing];
                case 8:
                    return doomed[thing];
                case 9:
                    return Integer.bitCount(trials[thing]);
                case 10:
                    return inside[thing];
                case 11:
                    return origin[thing];
                default:
                    return NONE;
            }
        }

        private int thingOfDay(int asked, int i) {
            int left = i;
            for (int x = 0; x < stock.things; x++) {
                if (isKept(x) && (dueDay[x] == asked || keepDay[x] == asked)) {
                    if (left == 0) {
                        return x;
                    }
                    left--;
                }
            }
            return NONE;
        }

        private void clear() {
            Arrays.fill(how, NOWHERE);
            Arrays.fill(holder, NONE);
            System.arraycopy(stock.weights, 0, weight, 0, THINGS);
            Arrays.fill(seal, NONE);
            Arrays.fill(dueDay, NONE);
            Arrays.fill(keepDay, NONE);
            Arrays.fill(doomed, 0);
            Arrays.fill(trials, 0);
            Arrays.fill(inside, 0);
            Arrays.fill(origin, NONE);
            Arrays.fill(lying, NONE);
            Arrays.fill(sealUsed, 0);
        }

        /** Does what slip i tells; false, changing nothing, if it can't be DONE. */
        private boolean tell(Slips slips, int i) {
            int kind = slips.cell(i, CELL_KIND);
            int minute = slips.cell(i, CELL_MINUTE);
            t = slips.cell(i, CELL_THING);
            a = slips.cell(i, CELL_A);
            b = slips.cell(i, CELL_B);
            c = slips.cell(i, CELL_C);
            d = slips.cell(i, CELL_D);
            // An altered IMAGE alone can hold such minutes, things and kinds.
            if (minute < 0 || minute > slips.cell(i, CELL_WRITTEN) || !stock.isThing(t)) {
                return false;
            }
            if (kind != IN && !isKept(t)) {
                return false;
            }
            day = minute / MINUTES_A_DAY;
            switch (kind) {
                case IN: return comeIn();
                case OUT: return goOut();
                case HAND: return goOn();
                case BACK: return comeBack();
                case PUT: return putElsewhere();
                case INTO: return goInto();
                case FROM: return comeFrom();
                case CLOSE: return close();
                case UNSEAL: return unseal();
                case LOOK: return look();
                case PART: return takePart();
                case COPY: return takeCopy();
                case WEIGH: return weigh();
                case KEEP: return keep();
                case DESTROY: return doom();
                case TRIAL: return beginTrial();
                case OVER: return endTrial();
                case DESTROYED: return destroy();
                case FOUND: return find();
                default: return false;
            }
        }

        private boolean comeIn() {
            if (how[t] != NOWHERE || stock.isOfKind(t, A_SAMPLE) || stock.isOfKind(t, A_COPY)) {
                return false;
            }
            if (!keepersServe(isMoneyBag(t)) || !stock.isHand(d) || !mayLieAt(c)) {
                return false;
            }
            move(t, AT_PLACE, c);
            return true;
        }

        private boolean goOut() {
            if (how[t] != AT_PLACE || !keepersServe(isMoneyBag(t)) || !stock.isHand(c) || !isDay(d)) {
                return false;
            }
            move(t, IN_HAND, c);
            dueDay[t] = d;
            return true;
        }

        private boolean goOn() {
            if (!isAt(t, IN_HAND, c) || !stock.isHand(d) || c == d) {
                return false;
            }
            move(t, IN_HAND, d);
            return true;
        }

        private boolean comeBack() {
            if (!isAt(t, IN_HAND, d) || !keepersServe(isMoneyBag(t)) || !mayLieAt(c)) {
                return false;
            }
            move(t, AT_PLACE, c);
            dueDay[t] = NONE;
            return true;
        }

        private boolean putElsewhere() {
            if (how[t] != AT_PLACE || !keepersServe(isMoneyBag(t)) || !mayLieAt(c)) {
                return false;
            }
            move(t, AT_PLACE, c);
            return true;
        }

        private boolean goInto() {
            if (!stock.isBag(c) || !isKept(c) || c == t || seal[c] != NONE) {
                return false;
            }
            // c is in no bag here, so it can't be in t either.
            boolean both = (how[t] == AT_PLACE && how[c] == AT_PLACE)
                    || (how[c] == IN_HAND && isAt(t, IN_HAND, holder[c]));
            if (!both || !keepersServe(isMoneyBag(t) || isMoneyBag(c))) {
                return false;
            }
            if (inside[c] >= THINGS_A_BAG || deepestIn(t) + 1 > BAGS_AROUND) {
                return false;
            }
            move(t, IN_BAG, c);
            return true;
        }

        private boolean comeFrom() {
            int bag = bagAround(t);
            if (!stock.isThing(bag) || seal[bag] != NONE || !keepersServe(isMoneyBag(t) || isMoneyBag(bag))) {
                return false;
            }
            if (how[bag] == IN_HAND) {
                move(t, IN_HAND, holder[bag]);
                return true;
            }
            if (how[bag] != AT_PLACE || !mayLieAt(c)) {
                return false;
            }
            move(t, AT_PLACE, c);
            return true;
        }

        private boolean close() {
            if (!stock.isBag(t) || seal[t] != NONE || !stock.isGivenOut(c) || sealUsed[c] != 0) {
                return false;
            }
            if (isMoneyBag(t) && !keepersServe(true)) {
                return false;
            }
            seal[t] = c;
            sealUsed[c] = 1;
            return true;
        }

        private boolean unseal() {
            if (!stock.isBag(t) || seal[t] == NONE || c < 0 || c > LAST_SEEN) {
                return false;
            }
            if (isMoneyBag(t) && !keepersServe(true)) {
                return false;
            }
            seal[t] = NONE;
            return true;
        }

        private boolean look() {
            return stock.isBag(t) && c >= NONE && c <= LAST_SEEN;
        }

        private boolean takePart() {
            if (!mayBeTaken(A_SAMPLE) || d < 1 || d > weight[t]) {
                return false;
            }
            weight[t] -= d;
            weight[c] = d;
            bringToHand();
            return true;
        }

        private boolean takeCopy() {
            if (!mayBeTaken(A_COPY)) {
                return false;
            }
            bringToHand();
            return true;
        }

        private boolean mayBeTaken(int kind) {
            return stock.isOfKind(c, kind) && how[c] == NOWHERE && isFree(t)
                    && keepersServe(isMoneyBag(t));
        }

        private void bringToHand() {
            origin[c] = t;
            move(c, IN_HAND, a);
        }

        private boolean weigh() {
            if (!isFree(t) || d < 0 || d > weight[t]) {
                return false;
            }
            weight[t] -= d;
            return true;
        }

        private boolean keep() {
            if (!isDay(c)) {
                return false;
            }
            keepDay[t] = c;
            return true;
        }

        private boolean doom() {
            doomed[t] = 1;
            return true;
        }

        private boolean beginTrial() {
            if (c < 0 || c > LAST_TRIAL || goesOn()) {
                return false;
            }
            trials[t] |= 1 << c;
            return true;
        }

        private boolean endTrial() {
            if (c < 0 || c > LAST_TRIAL || !goesOn()) {
                return false;
            }
            trials[t] &= ~(1 << c);
            return true;
        }

        private boolean goesOn() {
            return (trials[t] & (1 << c)) != 0;
        }

        private boolean destroy() {
            if (!keepersServe(true) || !stock.isHand(c) || c == a || c == b) {
                return false;
            }
            if (how[t] != AT_PLACE || doomed[t] == 0 || keepDay[t] > day || trials[t] != 0) {
                return false;
            }
            if (inside[t] != 0 || isAnyOfItInHand()) {
                return false;
            }
            move(t, GONE, NONE);
            return true;
        }

        private boolean find() {
            if (d == NONE && mayLieAt(c)) {
                move(t, AT_PLACE, c);
                return true;
            }
            if (c == NONE && stock.isHand(d) && !isAt(t, IN_HAND, d)) {
                move(t, IN_HAND, d);
                return true;
            }
            return false;
        }

        private boolean keepersServe(boolean two) {
            return stock.isKeeper(a) && (!two || (b != a && stock.isKeeper(b)));
        }

        private boolean isMoneyBag(int x) {
            return stock.isOfKind(x, A_MONEY_BAG);
        }

        private boolean isDay(int number) {
            return number >= 0 && number <= LAST_DAY;
        }

        private boolean isKept(int x) {
            return how[x] == AT_PLACE || how[x] == IN_HAND || how[x] == IN_BAG;
        }

        private boolean isAt(int x, int standing, int number) {
            return how[x] == standing && holder[x] == number;
        }

        /** Whether t may come to a place: an empty one, and a cold one for a cold bag. */
        private boolean mayLieAt(int place) {
            return stock.isPlace(place) && lying[place] == NONE
                    && (!stock.isOfKind(t, A_COLD_BAG) || stock.isColdPlace(place));
        }

        private void move(int x, int standing, int number) {
            register(how[x], holder[x], NONE);
            how[x] = standing;
            holder[x] = number;
            register(standing, number, x);
        }

        /** Keeps count of what is at a place or in a bag, so that no call must look through all things. */
        private void register(int standing, int number, int x) {
            if (standing == AT_PLACE && number >= 0 && number < lying.length) {
                lying[number] = x;
            } else if (standing == IN_BAG && number >= 0 && number < inside.length) {
                inside[number] += x == NONE ? -1 : 1;
            }
        }

        private int bagAround(int x) {
            return how[x] == IN_BAG ? holder[x] : NONE;
        }

        private int outermost(int x) {
            int outer = x;
            int bag = bagAround(x);
            for (int steps = 0; steps < BAGS_AROUND && stock.isThing(bag); steps++) {
                outer = bag;
                bag = bagAround(bag);
            }
            return outer;
        }

        private boolean isFree(int x) {
            int bag = bagAround(x);
            for (int steps = 0; steps < BAGS_AROUND && stock.isThing(bag); steps++) {
                if (seal[bag] != NONE) {
                    return false;
                }
                bag = bagAround(bag);
            }
            return true;
        }

        /** How many bags, itself among them, are around the thing that is deepest in a thing; 0 with none in it. */
        private int deepestIn(int bag) {
            int deepest = 0;
            for (int x = 0; x < stock.things; x++) {
                deepest = Math.max(deepest, stepsUpTo(x, bag));
            }
            return deepest;
        }

        /** How many steps outward lead from a thing to a bag around it; 0 if it isn't around. */
        private int stepsUpTo(int x, int bag) {
            int outer = bagAround(x);
            for (int steps = 1; steps <= BAGS_AROUND && stock.isThing(outer); steps++) {
                if (outer == bag) {
                    return steps;
                }
                outer = bagAround(outer);
            }
            return 0;
        }

        private boolean isAnyOfItInHand() {
            for (int x = 0; x < stock.things; x++) {
                if (how[x] == IN_HAND && isOf(x, t)) {
                    return true;
                }
            }
            return false;
        }

        private boolean isOf(int x, int source) {
            int from = origin[x];
            for (int steps = 0; steps < THINGS && stock.isThing(from); steps++) {
                if (from == source) {
                    return true;
                }
                from = origin[from];
            }
            return false;
        }
    }

    /** A thing that one hand gives to another when both have said yes. */
    private static final class Handing {
        private final int thing;
        private final int giver;
        private final int taker;
        private final int minute;
        private int giverYes = NONE;
        private int takerYes = NONE;
        private boolean ended;

        private Handing(int thing, int giver, int taker, int minute) {
            this.thing = thing;
            this.giver = giver;
            this.taker = taker;
            this.minute = minute;
        }

        private boolean isBetween(int hand) {
            return hand == giver || hand == taker;
        }

        private boolean awaits(int hand) {
            return !ended && ((hand == giver && giverYes == NONE) || (hand == taker && takerYes == NONE));
        }

        private void setYes(int hand, int minuteOfYes) {
            if (hand == giver) {
                giverYes = minuteOfYes;
            } else {
                takerYes = minuteOfYes;
            }
        }

        private boolean isAgreed() {
            return giverYes != NONE && takerYes != NONE;
        }

        private int laterYes() {
            return Math.max(giverYes, takerYes);
        }

        private boolean isLate() {
            return laterYes() - minute > MINUTES_IN_TIME;
        }
    }
}
