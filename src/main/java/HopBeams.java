import java.util.Arrays;

/**
 * Beams that hop: one satellite lights few cells of a land at a time, slot by slot.
 * The words in capitals of the document are used here as plain names.
 */
public final class HopBeams {
    public static final int NONE = -1;

    private static final int NO_SUCH = -2;
    private static final int OUT_OF_BOUNDS = -3;
    private static final int REFUSED = -4;
    private static final int HAS_NOTHING = -5;
    private static final int BEYOND_ROW = -6;
    private static final int CLASH = -7;
    private static final int NO_NUMBERS = -8;

    private static final int MOST_CELLS = 10;
    private static final int ALL_SETS = 1 << MOST_CELLS;
    private static final int MOST_BEAMS = 4;
    /** Sets of at most four out of ten cells: 1 + 10 + 45 + 120 + 210. */
    private static final int MOST_LEGAL = 386;
    private static final int GATEWAYS = 3;
    private static final int MOST_ROOM = 10;
    private static final int MOST_RAIN = 2;
    private static final int MOST_LATEST = 20;
    private static final int MOST_NEED = 9;
    private static final int MOST_ASK = 1000;
    private static final int MOST_PRICE = 1000000;
    private static final int MOST_WAYS_SLOTS = 24;
    private static final int MOST_SLOTS_AT_ONCE = 200;
    private static final int LAST_SLOT = 20000;
    private static final int MOST_PASTED_SETS = 12;
    private static final int MOST_STATES = 5000;
    private static final int BY_WEIGHT = 1;

    private final Land land = new Land();
    private final LegalSets legalSets = new LegalSets();
    private final Shelf shelf = new Shelf();
    private final Frame inUse = new Frame();
    /** Made by the first call that needs it: its rows are long, and many objects never do. */
    private Search search;
    /** Made by the first call that needs it, as the search is. */
    private Tally tally;
    /** What each cell counts in a sum over sets: its price or its weight. */
    private final int[] worth = new int[MOST_CELLS];
    private int ruleNow;
    private int slot;
    private int litLast = NONE;
    private int statesMet;

    public HopBeams() {
    }

    public int terms(int beams, int limit, int latest, int hand) {
        boolean fit = isWithin(beams, 1, MOST_BEAMS) && isWithin(limit, 1, 1000)
                && isWithin(latest, 1, MOST_LATEST) && isWithin(hand, 0, 9);
        if (!fit) {
            return NO_SUCH;
        }
        land.beams = beams;
        land.limit = limit;
        land.latest = latest;
        land.hand = hand;
        return 0;
    }

    public int cell(int power, int rate, int rank, int gateway) {
        boolean fit = isWithin(power, 1, 100) && isWithin(rate, 1, 1000)
                && isWithin(rank, 1, 9) && isGateway(gateway);
        if (!fit) {
            return NO_SUCH;
        }
        if (land.size >= MOST_CELLS) {
            return OUT_OF_BOUNDS;
        }
        land.cells[land.size] = new Cell(power, rate, rank, gateway);
        land.size++;
        return land.size - 1;
    }

    public boolean forbid(int a, int b, boolean are) {
        if (!land.hasCell(a) || !land.hasCell(b) || a == b) {
            return false;
        }
        if (contains(land.cells[a].forbidden, b) == are) {
            return false;
        }
        land.cells[a].forbidden ^= 1 << b;
        land.cells[b].forbidden ^= 1 << a;
        return true;
    }

    public int rain(int cell, int rain) {
        if (!land.hasCell(cell) || !isWithin(rain, 0, MOST_RAIN)) {
            return NO_SUCH;
        }
        int before = land.cells[cell].rain;
        land.cells[cell].rain = rain;
        return before;
    }

    public int gateway(int gateway, int room, boolean up) {
        if (!isGateway(gateway) || !isWithin(room, 0, MOST_ROOM)) {
            return NO_SUCH;
        }
        land.room[gateway] = room;
        land.up[gateway] = up;
        return 0;
    }

    public int swap(int cell, int gateway) {
        if (!land.hasCell(cell) || !isGateway(gateway) || land.cells[cell].gateway == gateway) {
            return NO_SUCH;
        }
        if (land.cells[cell].handing > 0) {
            return CLASH;
        }
        land.cells[cell].gateway = gateway;
        land.cells[cell].handing = land.hand;
        return 0;
    }

    public int needs(int place) {
        int refusal = shelf.refusal(place, land.size, MOST_NEED);
        if (refusal != 0) {
            return refusal;
        }
        int together = 0;
        for (int c = 0; c < land.size; c++) {
            int need = (int) shelf.number(place, c);
            land.cells[c].need = need;
            together += need;
        }
        return together;
    }

    public int asks(int place) {
        int refusal = shelf.refusal(place, land.size, MOST_ASK);
        if (refusal != 0) {
            return refusal;
        }
        int together = 0;
        for (int c = 0; c < land.size; c++) {
            int ask = (int) shelf.number(place, c);
            land.cells[c].ask = ask;
            together += ask;
        }
        return together;
    }

    public int legal(int set) {
        if (!isWithin(set, 0, land.allCells())) {
            return NO_SUCH;
        }
        return land.allows(set) ? 1 : 0;
    }

    public int sets() {
        legalSets.find(land);
        return legalSets.size;
    }

    public int fewest() {
        statesMet = 0;
        long lacks = land.lacksAtFirst();
        if (lacks == 0) {
            inUse.size = 0;
            return 0;
        }
        if (!land.canMeetNeeds()) {
            return NONE;
        }
        legalSets.find(land);
        if (search == null) {
            search = new Search();
        }
        boolean found = search.reachesEnd(legalSets, lacks);
        statesMet = search.size;
        if (!found) {
            return REFUSED;
        }
        search.tellRow(inUse);
        return inUse.size;
    }

    public int frame(int i) {
        return inUse.has(i) ? inUse.members[i] : NONE;
    }

    public int frameOf(int place) {
        int refusal = shelf.refusal(place, 0, 0);
        if (refusal != 0) {
            return refusal;
        }
        int n = Math.min(shelf.lengthOf(place), MOST_PASTED_SETS);
        if (n == 0) {
            return NO_NUMBERS;
        }
        if (!shelf.areWithin(place, n, land.allCells())) {
            return REFUSED;
        }
        for (int i = 0; i < n; i++) {
            inUse.members[i] = (int) shelf.number(place, i);
        }
        inUse.size = n;
        return n;
    }

    public long proof(int place) {
        int refusal = shelf.refusal(place, land.size, MOST_PRICE);
        if (refusal != 0) {
            return refusal;
        }
        long needed = 0;
        for (int c = 0; c < land.size; c++) {
            int price = (int) shelf.number(place, c);
            worth[c] = price;
            needed += (long) land.cells[c].need * price;
        }
        legalSets.find(land);
        long dearest = legalSets.sums[legalSets.worthiest(worth)];
        if (dearest == 0) {
            return needed == 0 ? 0 : NONE;
        }
        return (needed + dearest - 1) / dearest;
    }

    public int ways(int slots) {
        if (!isWithin(slots, 0, MOST_WAYS_SLOTS)) {
            return NO_SUCH;
        }
        legalSets.find(land);
        if (tally == null) {
            tally = new Tally();
        }
        tally.countRows(legalSets, land.allCells(), slots);
        return tally.digitsUsed();
    }

    public int digit(int i) {
        if (i < 0) {
            return NO_SUCH;
        }
        return tally == null ? 0 : tally.digitAt(i);
    }

    public int rule(int rule) {
        if (!isWithin(rule, 0, BY_WEIGHT)) {
            return NO_SUCH;
        }
        int before = ruleNow;
        ruleNow = rule;
        return before;
    }

    public int go(int slots) {
        if (!isWithin(slots, 1, MOST_SLOTS_AT_ONCE)) {
            return NO_SUCH;
        }
        if (slots > LAST_SLOT - slot) {
            return OUT_OF_BOUNDS;
        }
        legalSets.find(land);
        for (int k = 0; k < slots; k++) {
            passSlot();
        }
        return slot;
    }

    public int lit() {
        return litLast;
    }

    public int cellOf(int cell, int what) {
        return land.hasCell(cell) ? land.cells[cell].tell(what) : NO_SUCH;
    }

    public long units(int cell, int what) {
        return land.hasCell(cell) ? land.cells[cell].tellUnits(what) : NO_SUCH;
    }

    public int count(int what) {
        switch (what) {
            case 0: return land.size;
            case 1: return land.beams;
            case 2: return land.limit;
            case 3: return land.latest;
            case 4: return land.hand;
            case 5: return slot;
            case 6: return ruleNow;
            case 7: return inUse.size;
            case 8: return statesMet;
            case 9: return shelf.placesWithRow();
            default: return NONE;
        }
    }

    public int gatewayOf(int gateway, int what) {
        if (!isGateway(gateway)) {
            return NO_SUCH;
        }
        switch (what) {
            case 0: return land.room[gateway];
            case 1: return land.up[gateway] ? 1 : 0;
            case 2: return land.cellsOf(gateway);
            default: return NO_SUCH;
        }
    }

    public int row(int place, int width, int n) {
        return shelf.lay(place, width, n);
    }

    public boolean tear(int place) {
        return shelf.clear(place);
    }

    public int write(int place, int i, long v) {
        return shelf.put(place, i, v);
    }

    public int paste(int place, int i, int to, int k, int n) {
        return shelf.copy(place, i, to, k, n);
    }

    private void passSlot() {
        land.takeAsked();
        litLast = ruleNow == BY_WEIGHT ? heaviestSet() : setOfFrame();
        land.serve(litLast);
        if (land.handOn()) {
            legalSets.find(land);
        }
        slot++;
    }

    private int setOfFrame() {
        if (inUse.size < 1) {
            return 0;
        }
        int set = inUse.members[slot % inUse.size];
        for (int c = MOST_CELLS - 1; c >= 0 && !legalSets.has(set); c--) {
            set &= ~(1 << c);
        }
        return set;
    }

    private int heaviestSet() {
        for (int c = 0; c < land.size; c++) {
            worth[c] = land.cells[c].weightIfLit();
        }
        return legalSets.worthiest(worth);
    }

    private static boolean isWithin(long v, long least, long most) {
        return v >= least && v <= most;
    }

    private static boolean isGateway(int gateway) {
        return isWithin(gateway, 0, GATEWAYS - 1);
    }

    private static boolean contains(int set, int cell) {
        return (set >> cell & 1) != 0;
    }

    /** A cell: what it is, what it wants, and the units that wait for its beam. */
    private static final class Cell {
        private final int power;
        private final int rate;
        private final int rank;
        private int gateway;
        private int rain;
        private int need;
        private int ask;
        private int handing;
        private int forbidden;
        /** By age; the greatest age is held only while a slot goes by. */
        private final int[] waiting = new int[MOST_LATEST + 1];
        private long came;
        private long sent;
        private long lost;
        private int dark;
        private int longestDark;
        private int timesLit;

        private Cell(int power, int rate, int rank, int gateway) {
            this.power = power;
            this.rate = rate;
            this.rank = rank;
            this.gateway = gateway;
        }

        private int powerNow() {
            return power * (2 + rain) / 2;
        }

        private int rateNow() {
            if (rain == 0) {
                return rate;
            }
            return rain == 1 ? rate / 2 : 0;
        }

        private int held() {
            return (int) (came - sent - lost);
        }

        private int oldest() {
            for (int age = MOST_LATEST; age >= 0; age--) {
                if (waiting[age] > 0) {
                    return age;
                }
            }
            return NONE;
        }

        private int weightIfLit() {
            return rank * Math.min(held(), rateNow());
        }

        private void takeAsked() {
            waiting[0] += ask;
            came += ask;
        }

        private void send() {
            int left = rateNow();
            for (int age = MOST_LATEST; age >= 0 && left > 0; age--) {
                int units = Math.min(left, waiting[age]);
                waiting[age] -= units;
                left -= units;
                sent += units;
            }
        }

        private void growOlder(int latest) {
            for (int age = MOST_LATEST; age > 0; age--) {
                waiting[age] = waiting[age - 1];
            }
            waiting[0] = 0;
            // A latest that has become less may find units well above it.
            for (int age = MOST_LATEST; age >= latest && age >= 0; age--) {
                lost += waiting[age];
                waiting[age] = 0;
            }
        }

        private void markLight(boolean isLit) {
            if (isLit) {
                dark = 0;
                timesLit++;
            } else {
                dark++;
                longestDark = Math.max(longestDark, dark);
            }
        }

        private int tell(int what) {
            switch (what) {
                case 0: return powerNow();
                case 1: return rateNow();
                case 2: return gateway;
                case 3: return handing;
                case 4: return need;
                case 5: return ask;
                case 6: return held();
                case 7: return oldest();
                case 8: return longestDark;
                case 9: return timesLit;
                case 10: return forbidden;
                case 11: return rain;
                case 12: return rank;
                default: return NO_SUCH;
            }
        }

        private long tellUnits(int what) {
            switch (what) {
                case 0: return came;
                case 1: return sent;
                case 2: return lost;
                default: return NO_SUCH;
            }
        }
    }

    /** The cells, the gateways and the terms: all that says which sets are legal. */
    private static final class Land {
        /** At most ten cells are of one gateway: four bits of a number for each of them. */
        private static final int USER_BITS = 4;
        private static final int USER_MASK = 15;

        private final Cell[] cells = new Cell[MOST_CELLS];
        private int size;
        private final int[] room = {MOST_ROOM, MOST_ROOM, MOST_ROOM};
        private final boolean[] up = {true, true, true};
        private int beams = 2;
        private int limit = 100;
        private int latest = 8;
        private int hand = 2;

        private boolean hasCell(int cell) {
            return cell >= 0 && cell < size;
        }

        private int allCells() {
            return (1 << size) - 1;
        }

        private boolean allows(int set) {
            if (Integer.bitCount(set) > beams) {
                return false;
            }
            int power = 0;
            int users = 0;
            for (int c = 0; c < size; c++) {
                if (contains(set, c)) {
                    Cell cell = cells[c];
                    if ((cell.forbidden & set) != 0 || cell.handing > 0 || !up[cell.gateway]) {
                        return false;
                    }
                    power += cell.powerNow();
                    users += 1 << USER_BITS * cell.gateway;
                }
            }
            return power <= limit && haveRoom(users);
        }

        private boolean haveRoom(int users) {
            for (int g = 0; g < GATEWAYS; g++) {
                if ((users >> USER_BITS * g & USER_MASK) > room[g]) {
                    return false;
                }
            }
            return true;
        }

        private int cellsOf(int gateway) {
            int n = 0;
            for (int c = 0; c < size; c++) {
                if (cells[c].gateway == gateway) {
                    n++;
                }
            }
            return n;
        }

        /** Any part of a legal set is legal, so a cell is in one if it is legal alone. */
        private boolean canMeetNeeds() {
            for (int c = 0; c < size; c++) {
                if (cells[c].need > 0 && !allows(1 << c)) {
                    return false;
                }
            }
            return true;
        }

        private long lacksAtFirst() {
            long lacks = 0;
            for (int c = 0; c < size; c++) {
                lacks |= (long) cells[c].need << Search.BITS * c;
            }
            return lacks;
        }

        private void takeAsked() {
            for (int c = 0; c < size; c++) {
                cells[c].takeAsked();
            }
        }

        private void serve(int lit) {
            for (int c = 0; c < size; c++) {
                boolean isLit = contains(lit, c);
                if (isLit) {
                    cells[c].send();
                }
                cells[c].markLight(isLit);
                cells[c].growOlder(latest);
            }
        }

        /** Whether a cell has come to its new gateway, so that other sets are legal now. */
        private boolean handOn() {
            boolean cameOver = false;
            for (int c = 0; c < size; c++) {
                if (cells[c].handing > 0) {
                    cells[c].handing--;
                    cameOver |= cells[c].handing == 0;
                }
            }
            return cameOver;
        }
    }

    /** The sets that were legal when they were looked for, as numbers, rising. */
    private static final class LegalSets {
        private final boolean[] isLegal = new boolean[ALL_SETS];
        private final int[] list = new int[MOST_LEGAL];
        private int size;
        /** By set: what its cells were worth together when last asked for. */
        private final int[] sums = new int[ALL_SETS];

        private void find(Land land) {
            size = 0;
            int last = Math.min(land.allCells(), ALL_SETS - 1);
            for (int set = 0; set <= last; set++) {
                isLegal[set] = land.allows(set);
                if (isLegal[set] && size < MOST_LEGAL) {
                    list[size] = set;
                    size++;
                }
            }
        }

        private boolean has(int set) {
            return set >= 0 && set < ALL_SETS && isLegal[set];
        }

        /** The set whose cells are worth most together; of several the least. */
        private int worthiest(int[] worth) {
            int best = 0;
            int top = 0;
            for (int i = 1; i < size; i++) {
                int set = list[i];
                while (top < MOST_CELLS - 1 && set >> top + 1 != 0) {
                    top++;
                }
                // Without its top cell the set is legal too and less, so that sum is there.
                sums[set] = sums[set & ~(1 << top)] + worth[top];
                if (sums[set] > sums[best]) {
                    best = set;
                }
            }
            return best;
        }

        /** The cells any one of which could be put to the set. */
        private int roomBeside(int set) {
            int beside = 0;
            for (int c = 0; c < MOST_CELLS; c++) {
                if (!contains(set, c) && has(set | 1 << c)) {
                    beside |= 1 << c;
                }
            }
            return beside;
        }
    }

    /** The sets that are lit one behind the other, again and again. */
    private static final class Frame {
        private final int[] members = new int[MOST_CELLS * MOST_NEED];
        private int size;

        private boolean has(int i) {
            return i >= 0 && i < size;
        }
    }

    /** The way through the states, breadth first, to where nothing lacks. */
    private static final class Search {
        /** What a cell lacks is at most 9: four bits of a state. */
        private static final int BITS = 4;
        private static final int TABLE = 8192;
        private static final int TABLE_SHIFT = 64 - 13;
        private static final long SPREAD = 0x9E3779B97F4A7C15L;

        private final long[] states = new long[MOST_STATES];
        /** The state before it and the set between them, as before * ALL_SETS + set. */
        private final int[] steps = new int[MOST_STATES];
        private int size;
        /** Where a state stands, plus 1; 0 is free. */
        private final int[] table = new int[TABLE];
        private final int[] beside = new int[MOST_LEGAL];
        private final long[] given = new long[MOST_LEGAL];
        private final int[] widest = new int[MOST_LEGAL];
        private int widestSize;
        private int widestOf;
        private int lastStep;

        private boolean reachesEnd(LegalSets legal, long start) {
            prepare(legal);
            remember(start, 0, spotOf(start));
            for (int at = 0; at < size; at++) {
                chooseWidest(legal, lacking(states[at]));
                for (int k = 0; k < widestSize; k++) {
                    int i = widest[k];
                    long next = states[at] - given[i];
                    int step = at * ALL_SETS + legal.list[i];
                    if (next == 0) {
                        lastStep = step;
                        return true;
                    }
                    int spot = spotOf(next);
                    if (table[spot] == 0) {
                        if (size >= MOST_STATES) {
                            return false;
                        }
                        remember(next, step, spot);
                    }
                }
            }
            return false;
        }

        private void prepare(LegalSets legal) {
            Arrays.fill(table, 0);
            size = 0;
            widestOf = 0;
            widestSize = 0;
            for (int i = 0; i < legal.size; i++) {
                beside[i] = legal.roomBeside(legal.list[i]);
                given[i] = onceEach(legal.list[i]);
            }
        }

        private static long onceEach(int set) {
            long once = 0;
            for (int c = 0; c < MOST_CELLS; c++) {
                if (contains(set, c)) {
                    once |= 1L << BITS * c;
                }
            }
            return once;
        }

        private static int lacking(long state) {
            int set = 0;
            for (int c = 0; c < MOST_CELLS; c++) {
                if ((state >> BITS * c & 15) != 0) {
                    set |= 1 << c;
                }
            }
            return set;
        }

        /** Neighbours mostly lack in the same cells, so the last choice is kept. */
        private void chooseWidest(LegalSets legal, int lacking) {
            if (lacking == widestOf) {
                return;
            }
            widestOf = lacking;
            widestSize = 0;
            for (int i = 0; i < legal.size; i++) {
                if ((legal.list[i] & ~lacking) == 0 && (beside[i] & lacking) == 0) {
                    widest[widestSize] = i;
                    widestSize++;
                }
            }
        }

        /** Where the state is in the table, or where it would go; the table is never full. */
        private int spotOf(long state) {
            int spot = (int) (state * SPREAD >>> TABLE_SHIFT);
            for (int k = 0; k < TABLE; k++) {
                if (table[spot] == 0 || states[table[spot] - 1] == state) {
                    return spot;
                }
                spot = spot + 1 & TABLE - 1;
            }
            return spot;
        }

        private void remember(long state, int step, int spot) {
            states[size] = state;
            steps[size] = step;
            size++;
            table[spot] = size;
        }

        private void tellRow(Frame frame) {
            int length = 1;
            // Each step gives at least one unit of need, so no row is longer than a frame's.
            int most = frame.members.length;
            for (int at = lastStep / ALL_SETS; at > 0 && length < most; at = steps[at] / ALL_SETS) {
                length++;
            }
            frame.size = length;
            int step = lastStep;
            for (int i = frame.size - 1; i >= 0; i--) {
                frame.members[i] = step % ALL_SETS;
                step = steps[step / ALL_SETS];
            }
        }
    }

    /** How many rows of legal sets light every cell, in digits. */
    private static final class Tally {
        private static final long BASE = 1000000000L;
        private static final int BASE_DIGITS = 9;
        /** The 24th power of 386 has 63 digits. */
        private static final int LIMBS = 8;
        private static final int DIGITS = LIMBS * BASE_DIGITS;

        private final int[] within = new int[ALL_SETS];
        private final int[] times = new int[MOST_LEGAL + 1];
        private final long[] power = new long[LIMBS];
        private final long[] total = new long[LIMBS];
        private final byte[] digits = new byte[DIGITS];

        /**
         * Rows that keep to some cells are easily counted: a power. By turns added and
         * taken away over all parts of the land, they leave the rows that miss no cell.
         */
        private void countRows(LegalSets legal, int all, int slots) {
            countWithin(legal, all);
            Arrays.fill(times, 0);
            for (int part = 0; part <= all && part < ALL_SETS; part++) {
                int base = Math.min(within[part], MOST_LEGAL);
                times[base] += Integer.bitCount(all ^ part) % 2 == 0 ? 1 : -1;
            }
            Arrays.fill(total, 0);
            for (int base = 0; base <= MOST_LEGAL; base++) {
                if (times[base] != 0) {
                    raise(base, slots);
                    addPower(times[base]);
                }
            }
            carry();
            writeDigits();
        }

        private void countWithin(LegalSets legal, int all) {
            for (int part = 0; part <= all && part < ALL_SETS; part++) {
                within[part] = legal.has(part) ? 1 : 0;
            }
            for (int c = 0; c < MOST_CELLS; c++) {
                for (int part = 0; part <= all && part < ALL_SETS; part++) {
                    if (contains(part, c)) {
                        within[part] += within[part ^ 1 << c];
                    }
                }
            }
        }

        private void raise(int base, int exponent) {
            Arrays.fill(power, 0);
            power[0] = 1;
            for (int k = 0; k < exponent; k++) {
                long over = 0;
                for (int i = 0; i < LIMBS; i++) {
                    long v = power[i] * base + over;
                    power[i] = v % BASE;
                    over = v / BASE;
                }
            }
        }

        private void addPower(int factor) {
            for (int i = 0; i < LIMBS; i++) {
                total[i] += power[i] * factor;
            }
        }

        private void carry() {
            long over = 0;
            for (int i = 0; i < LIMBS; i++) {
                long v = total[i] + over;
                total[i] = Math.floorMod(v, BASE);
                over = Math.floorDiv(v, BASE);
            }
        }

        private void writeDigits() {
            for (int i = 0; i < LIMBS; i++) {
                long rest = total[i];
                for (int k = 0; k < BASE_DIGITS; k++) {
                    digits[i * BASE_DIGITS + k] = (byte) (rest % 10);
                    rest /= 10;
                }
            }
        }

        private int digitsUsed() {
            for (int i = DIGITS - 1; i > 0; i--) {
                if (digits[i] != 0) {
                    return i + 1;
                }
            }
            return 1;
        }

        private int digitAt(int i) {
            return i >= 0 && i < DIGITS ? digits[i] : 0;
        }
    }

    /** The places and their rows; all are made at once, so that laying a row makes nothing. */
    private static final class Shelf {
        private static final int PLACES = 4;
        private static final int MOST_NUMBERS = 60;
        private static final int WIDTHS = 4;

        private final long[][] numbers = new long[PLACES][MOST_NUMBERS];
        private final int[] widths = new int[PLACES];
        /** NONE: the place has nothing. */
        private final int[] lengths = {NONE, NONE, NONE, NONE};

        private static boolean isPlace(int place) {
            return place >= 0 && place < PLACES;
        }

        private int lengthOf(int place) {
            return isPlace(place) ? lengths[place] : NONE;
        }

        private long number(int place, int i) {
            return i >= 0 && i < lengthOf(place) ? numbers[place][i] : 0;
        }

        private int placesWithRow() {
            int n = 0;
            for (int place = 0; place < PLACES; place++) {
                if (lengths[place] != NONE) {
                    n++;
                }
            }
            return n;
        }

        /** Why the first numbers of a row can't be taken, each 0 .. most; 0 if they can. */
        private int refusal(int place, int first, int most) {
            if (!isPlace(place)) {
                return NO_SUCH;
            }
            if (lengths[place] == NONE) {
                return HAS_NOTHING;
            }
            if (lengths[place] < first) {
                return BEYOND_ROW;
            }
            return areWithin(place, first, most) ? 0 : REFUSED;
        }

        private boolean areWithin(int place, int first, int most) {
            for (int i = 0; i < first; i++) {
                if (!isWithin(number(place, i), 0, most)) {
                    return false;
                }
            }
            return true;
        }

        private int lay(int place, int width, int n) {
            if (!isPlace(place) || !isWithin(width, 0, WIDTHS - 1) || n > MOST_NUMBERS) {
                return NO_SUCH;
            }
            if (n < 0) {
                return OUT_OF_BOUNDS;
            }
            Arrays.fill(numbers[place], 0);
            widths[place] = width;
            lengths[place] = n;
            return 0;
        }

        private boolean clear(int place) {
            if (lengthOf(place) == NONE) {
                return false;
            }
            lengths[place] = NONE;
            return true;
        }

        private int put(int place, int i, long v) {
            if (!isPlace(place)) {
                return NO_SUCH;
            }
            if (lengths[place] == NONE) {
                return HAS_NOTHING;
            }
            if (i < 0 || i >= lengths[place]) {
                return BEYOND_ROW;
            }
            numbers[place][i] = cut(v, widths[place]);
            return 0;
        }

        private static long cut(long v, int width) {
            switch (width) {
                case 0: return (byte) v;
                case 1: return (short) v;
                case 2: return (int) v;
                default: return v;
            }
        }

        private int copy(int place, int i, int to, int k, int n) {
            if (!isPlace(place) || !isPlace(to)) {
                return NO_SUCH;
            }
            if (lengths[place] == NONE || lengths[to] == NONE) {
                return HAS_NOTHING;
            }
            if (widths[place] != widths[to]) {
                return CLASH;
            }
            if (i < 0 || k < 0 || n < 0 || i > lengths[place] - n || k > lengths[to] - n) {
                return BEYOND_ROW;
            }
            System.arraycopy(numbers[place], i, numbers[to], k, n);
            return 0;
        }
    }
}
