/** A line of stations that things pass. README.md tells how to use it. */
public final class SortingLine {
    public static final int UNKNOWN = -1, OUTSIDE = -2, FULL = -4, NONE = -5, PASSED = -6;

    private static final int MOST_THINGS = 100, MOST_PLACES = 8, MOST_STATIONS = 8;
    private static final int MOST_ON_BELT = 40, MOST_AT_SIDE = 20, MOST_STEPS = 100, MOST_WEIGHT = 1000;

    private static final int PARCEL = 0, CRATE = 1, SAFE = 2, BAG = 3;
    private static final int BYTES = 4, INTS = 5, LONGS = 6, GRID = 7;
    private static final int PARCELS = 8, CRATES = 9, SAFES = 10, LOCKED_ROW = 11;
    private static final int PARCEL_PILE = 12, CRATE_PILE = 13, LOCKED_PILE = 14, STACK = 15;
    private static final int LOCKED = 16, ANY = 17;

    private static final int WEIGH = 0, OPEN = 1, ADD_INTS = 2, ADD_LONGS = 3, ADD_BYTES = 4, HEAP = 5, PACK = 6;
    private static final int CORNER = 7, CELL = 8, DEPTH = 9, KEYS = 10, SPILL = 11, HOLD = 12;

    private static final int NO_FINDING = 0, CAST = 1, NOTHING = 2, BEYOND = 3, STORE = 4, SIZE = 5;
    private static final int FINDING_ANSWER = -20;
    // A WEIGHT may be -1 or -21 itself, so weight() tells what is no WEIGHT from far below.
    private static final int NO_WEIGHT = -2000000000;
    private static final int ACCEPTED = 0, DONE = 1;

    private final Things things = new Things();
    private final Stations stations = new Stations();
    private final Belt onBelt = new Belt();
    private final Side aside = new Side();
    private final Tally tally = new Tally();

    public SortingLine() {
    }

    public int thing(int form, int weight) {
        if (form < PARCEL || form > BAG || weight < -MOST_WEIGHT || weight > MOST_WEIGHT) {
            return OUTSIDE;
        }
        return things.add(form, weight, 0);
    }

    public int row(int form, int n) {
        if (form < BYTES || form > STACK || n > MOST_PLACES) {
            return OUTSIDE;
        }
        if (things.areFull()) {
            return FULL;
        }
        if (n < 0) {
            return answerOf(SIZE);
        }
        return things.add(form, 0, n);
    }

    public int is(int thing, int kind) {
        int refusal = refusalOf(thing, kind, PARCEL, ANY);
        if (refusal != ACCEPTED) {
            return refusal;
        }
        return things.isOf(thing, kind) ? 1 : 0;
    }

    public int more(int thing) {
        if (!things.hold(thing)) {
            return UNKNOWN;
        }
        for (int kind = PARCEL; kind < ANY; kind++) {
            if (kind != things.formOf(thing) && things.isOf(thing, kind)) {
                return kind;
            }
        }
        return NONE;
    }

    public int weight(int thing, int kind) {
        int refusal = refusalOf(thing, kind, PARCEL, SAFE);
        if (refusal != ACCEPTED) {
            return NO_WEIGHT + refusal;
        }
        if (!things.isOf(thing, kind)) {
            return NO_WEIGHT + answerOf(CAST);
        }
        return things.weightOf(thing);
    }

    public int length(int thing, int kind) {
        int refusal = refusalOf(thing, kind, BYTES, STACK);
        if (refusal != ACCEPTED) {
            return refusal;
        }
        if (!things.isOf(thing, kind)) {
            return answerOf(CAST);
        }
        return things.sizeOf(thing);
    }

    public int put(int thing, int kind, int i, long v) {
        int refusal = refusalOf(thing, kind, BYTES, LONGS);
        if (refusal != ACCEPTED) {
            return refusal;
        }
        int finding = findingAt(thing, kind, i);
        if (finding != NO_FINDING) {
            return answerOf(finding);
        }
        things.setNumber(thing, i, v);
        return DONE;
    }

    public long number(int thing, int kind, int i) throws ClassCastException, ArrayIndexOutOfBoundsException {
        if (refusalOf(thing, kind, BYTES, LONGS) != ACCEPTED) {
            return 0;
        }
        int finding = findingAt(thing, kind, i);
        if (finding == CAST) {
            throw new ClassCastException("the thing is not of that kind");
        }
        if (finding == BEYOND) {
            throw new ArrayIndexOutOfBoundsException("there is no such place");
        }
        return things.numberAt(thing, i);
    }

    public int lay(int thing, int kind, int i, int other) {
        if (other != NONE && !things.hold(other)) {
            return UNKNOWN;
        }
        int refusal = refusalOf(thing, kind, GRID, STACK);
        if (refusal != ACCEPTED) {
            return refusal;
        }
        int finding = things.isOf(thing, kind) ? layInto(thing, i, other, memberKind(kind)) : CAST;
        return finding == NO_FINDING ? DONE : answerOf(finding);
    }

    public int place(int thing, int kind, int i) {
        int refusal = refusalOf(thing, kind, GRID, STACK);
        if (refusal != ACCEPTED) {
            return refusal;
        }
        int finding = findingAt(thing, kind, i);
        return finding == NO_FINDING ? things.memberAt(thing, i) : answerOf(finding);
    }

    public int station(int gate, int work) {
        if (gate < PARCEL || gate > ANY || work < WEIGH || work > HOLD) {
            return OUTSIDE;
        }
        return stations.add(gate, work);
    }

    public int send(int thing) {
        if (!things.hold(thing)) {
            return UNKNOWN;
        }
        return onBelt.append(thing) ? onBelt.size() : FULL;
    }

    public int step() {
        if (onBelt.size() == 0) {
            return NONE;
        }
        int thing = onBelt.takeFirst();
        int station = stationFor(thing);
        if (station == NONE) {
            tally.addPassed();
            return PASSED;
        }
        int finding = workOn(thing, station);
        if (finding != NO_FINDING) {
            aside.add(thing, station, finding);
            tally.addFailed();
            return answerOf(finding);
        }
        tally.addWorked();
        return station;
    }

    public int run(int n) {
        if (n < 0 || n > MOST_STEPS) {
            return OUTSIDE;
        }
        int answer = 0;
        for (int done = 0; done < n && onBelt.size() > 0; done++) {
            answer += step() < FINDING_ANSWER ? 1000 : 1;
        }
        return answer;
    }

    public long total(int station) {
        return stations.totalOf(station);
    }

    public int slot(int station) {
        return stations.hold(station) ? stations.slotOf(station) : UNKNOWN;
    }

    public int belt(int i) {
        return onBelt.thingAt(i);
    }

    public int side(int i, int what) {
        if (what < 0 || what > 2) {
            return OUTSIDE;
        }
        return aside.tell(i, what);
    }

    public int count(int what) {
        return switch (what) {
            case 0 -> things.howMany();
            case 1 -> stations.howMany();
            case 2 -> onBelt.size();
            case 3 -> tally.worked;
            case 4 -> tally.passed;
            case 5 -> tally.failed;
            case 6, 7, 8, 9, 10 -> tally.foundOf(what - 5);
            default -> OUTSIDE;
        };
    }

    public int clear() {
        int before = things.howMany();
        things.forget();
        stations.forget();
        onBelt.forget();
        aside.forget();
        tally.forget();
        return before;
    }

    private int refusalOf(int thing, int kind, int leastKind, int mostKind) {
        if (!things.hold(thing)) {
            return UNKNOWN;
        }
        return kind < leastKind || kind > mostKind ? OUTSIDE : ACCEPTED;
    }

    private int answerOf(int finding) {
        tally.addFinding(finding);
        return FINDING_ANSWER - finding;
    }

    private int findingAt(int thing, int kind, int i) {
        if (!things.isOf(thing, kind)) {
            return CAST;
        }
        return things.hasPlace(thing, i) ? NO_FINDING : BEYOND;
    }

    /** Lays other, taken for a kind, at place i of a row, if there is no finding. */
    private int layInto(int row, int i, int other, int kind) {
        if (other != NONE && !things.isOf(other, kind)) {
            return CAST;
        }
        if (!things.hasPlace(row, i)) {
            return BEYOND;
        }
        // A row of CRATES may have been taken for one of PARCELS: what it can hold goes by its own FORM.
        if (other != NONE && !things.isOf(other, memberKind(things.formOf(row)))) {
            return STORE;
        }
        things.setMember(row, i, other);
        return NO_FINDING;
    }

    private int stationFor(int thing) {
        for (int station = 0; station < stations.howMany(); station++) {
            if (things.isOf(thing, stations.gateOf(station))) {
                return station;
            }
        }
        return NONE;
    }

    private int workOn(int thing, int station) {
        int work = stations.workOf(station);
        if (!things.isOf(thing, kindForWork(work))) {
            return CAST;
        }
        return switch (work) {
            case WEIGH -> weigh(thing, station);
            case OPEN -> grow(station, things.keyOf(thing));
            case ADD_INTS, ADD_LONGS, ADD_BYTES -> grow(station, things.sumOfNumbers(thing));
            case HEAP, KEYS -> addMembers(thing, station, work);
            case PACK -> pack(thing, station);
            case CORNER -> addCorner(thing, station, 2);
            case CELL -> addCell(thing, station);
            case DEPTH -> addCorner(thing, station, 3);
            case SPILL -> spill(thing);
            default -> keep(thing, station);
        };
    }

    private int grow(int station, long amount) {
        stations.grow(station, amount);
        return NO_FINDING;
    }

    private int keep(int thing, int station) {
        stations.setSlot(station, thing);
        return NO_FINDING;
    }

    private int weigh(int parcel, int station) {
        stations.grow(station, things.weightOf(parcel));
        return keep(parcel, station);
    }

    private int addMembers(int row, int station, int work) {
        long sum = 0;
        for (int i = 0; i < things.sizeOf(row); i++) {
            int member = things.memberAt(row, i);
            if (member == NONE) {
                return NOTHING;
            }
            sum += work == KEYS ? things.keyOf(member) : things.weightOf(member);
        }
        return grow(station, sum);
    }

    private int pack(int row, int station) {
        int finding = layInto(row, 0, stations.slotOf(station), PARCEL);
        if (finding == NO_FINDING) {
            stations.setSlot(station, NONE);
        }
        return finding;
    }

    private int addCorner(int pile, int station, int steps) {
        int at = pile;
        for (int taken = 0; taken < steps; taken++) {
            int finding = findingAtFirst(at);
            if (finding != NO_FINDING) {
                return finding;
            }
            at = things.memberAt(at, 0);
        }
        return grow(station, things.weightOf(at));
    }

    private int addCell(int grid, int station) {
        int finding = findingAtFirst(grid);
        if (finding != NO_FINDING) {
            return finding;
        }
        int ints = things.memberAt(grid, 0);
        return things.hasPlace(ints, 0) ? grow(station, things.numberAt(ints, 0)) : BEYOND;
    }

    /** What is found by one who wants something of what stands at place 0. */
    private int findingAtFirst(int row) {
        if (!things.hasPlace(row, 0)) {
            return BEYOND;
        }
        return things.memberAt(row, 0) == NONE ? NOTHING : NO_FINDING;
    }

    private int spill(int row) {
        for (int i = 0; i < things.sizeOf(row); i++) {
            int member = things.memberAt(row, i);
            if (member != NONE && onBelt.append(member)) {
                things.setMember(row, i, NONE);
            }
        }
        return NO_FINDING;
    }

    /** Whether a FORM is of a KIND other than itself and 17. */
    private static boolean alsoIs(int form, int kind) {
        return switch (form) {
            case CRATE -> kind == PARCEL;
            case SAFE -> kind == PARCEL || kind == CRATE || kind == LOCKED;
            case BAG -> kind == LOCKED;
            case CRATES -> kind == PARCELS;
            case SAFES -> kind == PARCELS || kind == CRATES || kind == LOCKED_ROW;
            case CRATE_PILE -> kind == PARCEL_PILE;
            default -> false;
        };
    }

    /** What a KIND is a row of. */
    private static int memberKind(int kind) {
        return switch (kind) {
            case GRID -> INTS;
            case PARCELS -> PARCEL;
            case CRATES -> CRATE;
            case SAFES -> SAFE;
            case LOCKED_ROW -> LOCKED;
            case PARCEL_PILE -> PARCELS;
            case CRATE_PILE -> CRATES;
            case LOCKED_PILE -> LOCKED_ROW;
            case STACK -> PARCEL_PILE;
            default -> NONE;
        };
    }

    private static int kindForWork(int work) {
        return switch (work) {
            case WEIGH -> PARCEL;
            case OPEN -> LOCKED;
            case ADD_INTS -> INTS;
            case ADD_LONGS -> LONGS;
            case ADD_BYTES -> BYTES;
            case HEAP, PACK, SPILL -> PARCELS;
            case CORNER -> PARCEL_PILE;
            case CELL -> GRID;
            case DEPTH -> STACK;
            case KEYS -> LOCKED_ROW;
            default -> ANY;
        };
    }

    /** All THINGS; their places lie side by side in rows that are made once, as many calls share one room. */
    private static final class Things {
        private final int[] forms = new int[MOST_THINGS];
        private final int[] weights = new int[MOST_THINGS];
        private final int[] sizes = new int[MOST_THINGS];
        private final long[] numbers = new long[MOST_THINGS * MOST_PLACES];
        private final int[] members = new int[MOST_THINGS * MOST_PLACES];
        private int made = 0;

        int howMany() {
            return made;
        }

        boolean areFull() {
            return made >= MOST_THINGS;
        }

        boolean hold(int thing) {
            return thing >= 0 && thing < made;
        }

        int add(int form, int weight, int size) {
            if (areFull()) {
                return FULL;
            }
            int thing = made;
            forms[thing] = form;
            weights[thing] = weight;
            sizes[thing] = size;
            for (int i = 0; i < MOST_PLACES; i++) {
                numbers[thing * MOST_PLACES + i] = 0;
                members[thing * MOST_PLACES + i] = NONE;
            }
            made++;
            return thing;
        }

        int formOf(int thing) {
            return hold(thing) ? forms[thing] : NONE;
        }

        boolean isOf(int thing, int kind) {
            if (!hold(thing)) {
                return false;
            }
            return kind == ANY || kind == forms[thing] || alsoIs(forms[thing], kind);
        }

        int weightOf(int thing) {
            return hold(thing) ? weights[thing] : 0;
        }

        int keyOf(int locked) {
            return formOf(locked) == SAFE ? weightOf(locked) * 3 + 1 : weightOf(locked) - 7;
        }

        int sizeOf(int row) {
            return hold(row) ? sizes[row] : 0;
        }

        boolean hasPlace(int row, int i) {
            return row >= 0 && row < made && i >= 0 && i < sizes[row];
        }

        long numberAt(int row, int i) {
            return hasPlace(row, i) ? numbers[row * MOST_PLACES + i] : 0;
        }

        void setNumber(int row, int i, long v) {
            if (!hasPlace(row, i)) {
                return;
            }
            numbers[row * MOST_PLACES + i] = switch (forms[row]) {
                case BYTES -> (byte) v;
                case INTS -> (int) v;
                default -> v;
            };
        }

        long sumOfNumbers(int row) {
            long sum = 0;
            for (int i = 0; i < sizeOf(row); i++) {
                sum += numberAt(row, i);
            }
            return sum;
        }

        int memberAt(int row, int i) {
            return hasPlace(row, i) ? members[row * MOST_PLACES + i] : NONE;
        }

        void setMember(int row, int i, int member) {
            if (hasPlace(row, i)) {
                members[row * MOST_PLACES + i] = member;
            }
        }

        void forget() {
            made = 0;
        }
    }

    private static final class Stations {
        private final int[] gates = new int[MOST_STATIONS];
        private final int[] works = new int[MOST_STATIONS];
        private final long[] totals = new long[MOST_STATIONS];
        private final int[] slots = new int[MOST_STATIONS];
        private int made = 0;

        int howMany() {
            return made;
        }

        boolean hold(int station) {
            return station >= 0 && station < made;
        }

        int add(int gate, int work) {
            if (made >= MOST_STATIONS) {
                return FULL;
            }
            int station = made;
            gates[station] = gate;
            works[station] = work;
            totals[station] = 0;
            slots[station] = NONE;
            made++;
            return station;
        }

        int gateOf(int station) {
            return hold(station) ? gates[station] : NONE;
        }

        int workOf(int station) {
            return hold(station) ? works[station] : NONE;
        }

        long totalOf(int station) {
            return hold(station) ? totals[station] : 0;
        }

        int slotOf(int station) {
            return hold(station) ? slots[station] : NONE;
        }

        void grow(int station, long amount) {
            if (hold(station)) {
                totals[station] += amount;
            }
        }

        void setSlot(int station, int thing) {
            if (hold(station)) {
                slots[station] = thing;
            }
        }

        void forget() {
            made = 0;
        }
    }

    /** A ring, so that the first THING can leave without the others being moved. */
    private static final class Belt {
        private final int[] ring = new int[MOST_ON_BELT];
        private int first = 0;
        private int size = 0;

        int size() {
            return size;
        }

        boolean append(int thing) {
            if (size >= MOST_ON_BELT) {
                return false;
            }
            ring[(first + size) % MOST_ON_BELT] = thing;
            size++;
            return true;
        }

        int thingAt(int i) {
            return i >= 0 && i < size ? ring[(first + i) % MOST_ON_BELT] : NONE;
        }

        int takeFirst() {
            if (size == 0) {
                return NONE;
            }
            int thing = ring[first];
            first = (first + 1) % MOST_ON_BELT;
            size--;
            return thing;
        }

        void forget() {
            first = 0;
            size = 0;
        }
    }

    /** A ring of the latest ones; an older one gives way to a new one. */
    private static final class Side {
        private final int[] ofThings = new int[MOST_AT_SIDE];
        private final int[] ofStations = new int[MOST_AT_SIDE];
        private final int[] ofFindings = new int[MOST_AT_SIDE];
        private int next = 0;
        private int size = 0;

        void add(int thing, int station, int finding) {
            ofThings[next] = thing;
            ofStations[next] = station;
            ofFindings[next] = finding;
            next = (next + 1) % MOST_AT_SIDE;
            size = Math.min(size + 1, MOST_AT_SIDE);
        }

        int tell(int i, int what) {
            if (i < 0 || i >= size) {
                return NONE;
            }
            int at = (next - 1 - i + MOST_AT_SIDE) % MOST_AT_SIDE;
            return switch (what) {
                case 0 -> ofThings[at];
                case 1 -> ofStations[at];
                default -> ofFindings[at];
            };
        }

        void forget() {
            next = 0;
            size = 0;
        }
    }

    private static final class Tally {
        private final int[] found = new int[SIZE + 1];
        private int worked = 0;
        private int passed = 0;
        private int failed = 0;

        void addWorked() {
            worked++;
        }

        void addPassed() {
            passed++;
        }

        void addFailed() {
            failed++;
        }

        void addFinding(int finding) {
            if (finding >= CAST && finding <= SIZE) {
                found[finding]++;
            }
        }

        int foundOf(int finding) {
            return finding >= CAST && finding <= SIZE ? found[finding] : 0;
        }

        void forget() {
            worked = 0;
            passed = 0;
            failed = 0;
            for (int finding = NO_FINDING; finding <= SIZE; finding++) {
                found[finding] = 0;
            }
        }
    }
}
