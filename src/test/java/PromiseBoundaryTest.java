/** The boundaries that the promises name: the last value that is allowed, the first that is not; empty; full. */
public final class PromiseBoundaryTest extends Checks {
    private static final int[] NO_THING = {LEAST, PASSED, NONE, FULL, -3, OUTSIDE, UNKNOWN, 16, 99, 100, MOST};
    private static final String CAST_THROWN = "java.lang.ClassCastException";
    private static final String BEYOND_THROWN = "java.lang.ArrayIndexOutOfBoundsException";

    /** KINDS of which no FORM is two, so that each STATION has a THING of its own. */
    private static final int[] GATES = {4, 5, 6, 7, 8, 11, 12, 15};

    public static void main(String[] args) {
        newObject();
        thingForms();
        thingWeights();
        thingFull();
        rowForms();
        rowSizes();
        rowFull();
        isKinds();
        moreOfEach();
        weightKinds();
        weightsAreNotMistaken();
        lengthKinds();
        putKinds();
        putPlaces();
        putLowestBits();
        putBesides();
        numberKinds();
        numberPlaces();
        numberCountsNone();
        layKinds();
        layOthers();
        layPlaces();
        layOrder();
        layEach();
        placeKinds();
        placePlaces();
        stationNumbers();
        stationFull();
        sendNumbers();
        sendFull();
        stepAnswers();
        runNumbers();
        runSteps();
        runEighty();
        runAnswers();
        totals();
        slots();
        belts();
        sides();
        counts();
        countsOfFindings();
        clearOfNothing();
        clearOfAll();
        clearedTakesAsMuchAgain();
        finish();
    }

    // Promise 1
    private static void newObject() {
        about("SortingLine(): Nothing is there");
        Line x = new Line();
        for (int what = 0; what <= 10; what++) {
            due(x.count(what), 0);
        }
        dueNoThing(x, 0);
        for (int station = 0; station < 8; station++) {
            due(x.total(station), 0);
            due(x.slot(station), UNKNOWN);
        }
        for (int i = 0; i < 40; i++) {
            due(x.belt(i), NONE);
        }
        for (int i = 0; i < 20; i++) {
            for (int what = 0; what <= 2; what++) {
                due(x.side(i, what), NONE);
            }
        }
        due(x.step(), NONE);
        due(x.run(100), 0);
        due(x.clear(), 0);
        for (int what = 0; what <= 10; what++) {
            due(x.count(what), 0);
        }
    }

    private static void dueNoThing(Line x, int thing) {
        due(x.is(thing, 0), UNKNOWN);
        due(x.more(thing), UNKNOWN);
        due(x.weight(thing, 0), -2000000001);
        due(x.length(thing, 4), UNKNOWN);
        due(x.put(thing, 4, 0, 1), UNKNOWN);
        due(x.numberOrThrown(thing, 4, 0), "0");
        due(x.lay(thing, 8, 0, NONE), UNKNOWN);
        due(x.place(thing, 8, 0), UNKNOWN);
        due(x.send(thing), UNKNOWN);
    }

    // Promise 2
    private static void thingForms() {
        about("A THING of FORM 0 to 3 .. OUTSIDE");
        Line x = new Line();
        for (int form = 0; form <= 3; form++) {
            due(x.thing(form, 0), form);
            due(x.is(form, form), 1);
        }
        for (int form : outside(0, 3)) {
            due(x.thing(form, 0), OUTSIDE);
        }
        for (int form = 4; form <= 17; form++) {
            due(x.thing(form, 0), OUTSIDE);
        }
        due(x.count(0), 4);
        due(x.more(4), UNKNOWN);
    }

    private static void thingWeights() {
        about("with a WEIGHT (-1000 .. 1000) .. OUTSIDE");
        for (int form = 0; form <= 3; form++) {
            Line x = new Line();
            x.station(0, WEIGH);
            x.station(3, OPEN);
            for (int weight : new int[] {-1000, -999, 0, 999, 1000}) {
                int thing = x.count(0);
                long before = x.total(0) + x.total(1);
                due(x.thing(form, weight), thing);
                due(sendAndStep(x, thing), form == 3 ? 1 : 0);
                due(x.total(0) + x.total(1), before + (form == 3 ? weight - 7 : weight));
                due(x.weight(thing, 0), form == 3 ? -2000000021 : weight);
            }
            for (int weight : outside(-1000, 1000)) {
                due(x.thing(form, weight), OUTSIDE);
            }
            due(x.count(0), 5);
        }
    }

    private static void thingFull() {
        about("thing: OUTSIDE; FULL");
        Line x = new Line();
        for (int k = 0; k < 100; k++) {
            due(x.thing(k % 4, k - 50), k);
        }
        for (int form = 0; form <= 3; form++) {
            due(x.thing(form, -1000), FULL);
            due(x.thing(form, 1000), FULL);
            due(x.thing(form, -1001), OUTSIDE);
            due(x.thing(form, 1001), OUTSIDE);
        }
        for (int form : outside(0, 3)) {
            due(x.thing(form, 0), OUTSIDE);
            due(x.thing(form, 1001), OUTSIDE);
        }
        due(x.count(0), 100);
        due(x.weight(0, 0), -50);
        due(x.weight(98, 0), 48);
        due(x.is(99, 3), 1);
        due(x.more(100), UNKNOWN);
    }

    // Promise 3
    private static void rowForms() {
        about("A row, FORM 4 to 15 .. OUTSIDE");
        Line x = new Line();
        for (int form = 4; form <= 15; form++) {
            due(x.row(form, 1), form - 4);
            due(x.is(form - 4, form), 1);
        }
        for (int form : outside(4, 15)) {
            due(x.row(form, 1), OUTSIDE);
        }
        for (int form : new int[] {-1, 0, 1, 2, 3, 16, 17}) {
            due(x.row(form, 0), OUTSIDE);
            due(x.row(form, 8), OUTSIDE);
            due(x.row(form, 9), OUTSIDE);
            due(x.row(form, -1), OUTSIDE);
        }
        due(x.count(0), 12);
        due(x.count(10), 0);
    }

    private static void rowSizes() {
        about("of n places (8 at most) .. OUTSIDE .. SIZE: a size below 0");
        for (int form = 4; form <= 15; form++) {
            Line x = new Line();
            for (int n = 0; n <= 8; n++) {
                due(x.row(form, n), n);
                due(x.length(n, form), n);
            }
            due(x.row(form, 9), OUTSIDE);
            due(x.row(form, 10), OUTSIDE);
            due(x.row(form, MOST), OUTSIDE);
            due(x.count(10), 0);
            due(x.row(form, -1), SIZE);
            due(x.row(form, -2), SIZE);
            due(x.row(form, LEAST), SIZE);
            due(x.count(10), 3);
            due(x.count(0), 9);
        }
    }

    private static void rowFull() {
        about("row: OUTSIDE; FULL; SIZE");
        Line x = new Line();
        for (int k = 0; k < 99; k++) {
            x.row(4 + k % 12, k % 9);
        }
        due(x.row(4, -1), SIZE);
        due(x.row(15, 8), 99);
        due(x.row(4, 0), FULL);
        due(x.row(15, 8), FULL);
        due(x.row(4, -1), FULL);
        due(x.row(15, LEAST), FULL);
        due(x.row(4, 9), OUTSIDE);
        due(x.row(3, 0), OUTSIDE);
        due(x.row(16, 0), OUTSIDE);
        due(x.row(16, -1), OUTSIDE);
        due(x.count(10), 1);
        due(x.count(0), 100);
        due(x.length(99, 15), 8);
    }

    // Promise 4
    private static void isKinds() {
        about("Whether a THING IS of a KIND (0 .. 17): 1, 0. UNKNOWN; OUTSIDE");
        Line x = oneOfEach(1);
        for (int form = 0; form <= 15; form++) {
            for (int kind : outside(0, 17)) {
                due(x.is(form, kind), OUTSIDE);
            }
            due(x.is(form, 17), 1);
            due(x.is(form, 0), form <= 2 ? 1 : 0);
            due(x.is(form, 16), form == 2 || form == 3 ? 1 : 0);
        }
        for (int thing : NO_THING) {
            for (int kind : new int[] {-1, 0, 17, 18}) {
                due(x.is(thing, kind), UNKNOWN);
            }
        }
    }

    // Promise 5
    private static void moreOfEach() {
        about("The least KIND that a THING IS (but its FORM and 17); NONE. UNKNOWN");
        Line x = oneOfEach(1);
        int[] answers = {NONE, 0, 0, 16, NONE, NONE, NONE, NONE, NONE, 8, 8, NONE, NONE, 12, NONE, NONE};
        for (int form = 0; form <= 15; form++) {
            due(x.more(form), answers[form]);
        }
        for (int thing : NO_THING) {
            due(x.more(thing), UNKNOWN);
        }
    }

    // Promise 6
    private static void weightKinds() {
        about("WEIGHT of a THING, TAKEN for a KIND (0 to 2): CAST. UNKNOWN, OUTSIDE");
        Line x = oneOfEach(1);
        int casts = 0;
        for (int form = 0; form <= 15; form++) {
            for (int kind = 0; kind <= 2; kind++) {
                boolean fits = isOf(form, kind);
                due(x.weight(form, kind), fits ? 5 + 10 * form : -2000000021);
                casts += fits ? 0 : 1;
            }
            for (int kind : outside(0, 2)) {
                due(x.weight(form, kind), -2000000002);
            }
            due(x.weight(form, form > 2 ? form : 16), -2000000002);
        }
        for (int thing : NO_THING) {
            for (int kind : new int[] {-1, 0, 2, 3}) {
                due(x.weight(thing, kind), -2000000001);
            }
        }
        due(x.count(6), casts);
    }

    private static void weightsAreNotMistaken() {
        about("CAST (as -2000000021). UNKNOWN, OUTSIDE (as -2000000001, -2000000002)");
        Line x = new Line();
        for (int weight : new int[] {-1000, -25, -21, -20, -6, -5, -4, -2, -1, 0, 1, 1000}) {
            int thing = x.thing(0, weight);
            due(x.weight(thing, 0), weight);
        }
        due(x.count(6), 0);
        due(x.weight(0, 1), -2000000021);
        due(x.count(6), 1);
    }

    // Promise 7
    private static void lengthKinds() {
        about("How many places a THING has, TAKEN for a KIND (4 to 15). UNKNOWN; OUTSIDE; CAST");
        for (int n = 0; n <= 8; n++) {
            Line x = oneOfEach(n);
            int casts = 0;
            for (int form = 0; form <= 15; form++) {
                for (int kind = 4; kind <= 15; kind++) {
                    due(x.length(form, kind), isOf(form, kind) ? n : CAST);
                    casts += isOf(form, kind) ? 0 : 1;
                }
                for (int kind : outside(4, 15)) {
                    due(x.length(form, kind), OUTSIDE);
                }
            }
            for (int thing : NO_THING) {
                for (int kind : new int[] {3, 4, 15, 16}) {
                    due(x.length(thing, kind), UNKNOWN);
                }
            }
            due(x.count(6), casts);
        }
    }

    // Promise 8
    private static void putKinds() {
        about("put: TAKEN for a KIND (4 to 6) .. UNKNOWN; OUTSIDE; CAST, BEYOND");
        Line x = oneOfEach(1);
        int casts = 0, beyonds = 0;
        for (int form = 0; form <= 15; form++) {
            for (int kind = 4; kind <= 6; kind++) {
                due(x.put(form, kind, 0, 7), form == kind ? 1 : CAST);
                due(x.put(form, kind, 1, 8), form == kind ? BEYOND : CAST);
                casts += form == kind ? 0 : 2;
                beyonds += form == kind ? 1 : 0;
            }
            for (int kind : outside(4, 6)) {
                due(x.put(form, kind, 0, 9), OUTSIDE);
                due(x.put(form, kind, 1, 9), OUTSIDE);
            }
        }
        for (int thing : NO_THING) {
            for (int kind : new int[] {3, 4, 6, 7}) {
                due(x.put(thing, kind, 1, 9), UNKNOWN);
            }
        }
        for (int form = 4; form <= 6; form++) {
            due(x.number(form, form, 0), 7);
        }
        due(x.count(6), casts);
        due(x.count(8), beyonds);
    }

    private static void putPlaces() {
        about("put: Place i of a THING .. BEYOND: there is no such place");
        for (int form = 4; form <= 6; form++) {
            for (int n = 0; n <= 8; n++) {
                Line x = new Line();
                x.row(form, n);
                for (int i = 0; i < n; i++) {
                    due(x.put(0, form, i, i + 1), 1);
                }
                for (int i : outside(0, n - 1)) {
                    due(x.put(0, form, i, 99), BEYOND);
                }
                due(x.put(0, form, 8, 99), BEYOND);
                due(x.count(8), 5);
                for (int i = 0; i < n; i++) {
                    due(x.number(0, form, i), i + 1);
                }
            }
        }
    }

    private static void putLowestBits() {
        about("put: becomes v (its lowest bits)");
        long[] numbers = {0, 1, -1, 127, 128, 129, -127, -128, -129, 255, 256, 257, -255, -256, -257, MOST, LEAST,
            MOST + 1L, LEAST - 1L, (1L << 32) - 1, 1L << 32, (1L << 32) + 1, -(1L << 32), -(1L << 32) - 1, 1L << 62,
            Long.MAX_VALUE, Long.MIN_VALUE, 0x0123456789abcdefL, 0xfedcba9876543210L};
        for (long number : numbers) {
            Line x = oneOfEach(2);
            for (int form = 4; form <= 6; form++) {
                due(x.put(form, form, 1, number), 1);
                due(x.number(form, form, 0), 0);
            }
            due(x.number(4, 4, 1), (byte) number);
            due(x.number(5, 5, 1), (int) number);
            due(x.number(6, 6, 1), number);
        }
    }

    /** Rows beside one another, so that a place beyond one would be a place of the next. */
    private static void putBesides() {
        about("put: BEYOND: nothing else changes");
        Line x = new Line();
        for (int k = 0; k < 3; k++) {
            x.row(6, 8);
            for (int i = 0; i < 8; i++) {
                x.put(k, 6, i, 10 * k + i + 1);
            }
        }
        for (int i : new int[] {-9, -8, -1, 8, 9, 15, 16}) {
            due(x.put(1, 6, i, -1), BEYOND);
            due(x.numberOrThrown(1, 6, i), BEYOND_THROWN);
        }
        for (int k = 0; k < 3; k++) {
            for (int i = 0; i < 8; i++) {
                due(x.number(k, 6, i), 10 * k + i + 1);
            }
        }
    }

    // Promise 9
    private static void numberKinds() {
        about("number: TAKEN for a KIND (4 to 6). 0: UNKNOWN, OUTSIDE. ClassCastException: CAST");
        Line x = oneOfEach(1);
        for (int form = 4; form <= 6; form++) {
            x.put(form, form, 0, 50 + form);
        }
        for (int form = 0; form <= 15; form++) {
            for (int kind = 4; kind <= 6; kind++) {
                due(x.numberOrThrown(form, kind, 0), form == kind ? "" + (50 + form) : CAST_THROWN);
                due(x.numberOrThrown(form, kind, 1), form == kind ? BEYOND_THROWN : CAST_THROWN);
            }
            for (int kind : outside(4, 6)) {
                due(x.numberOrThrown(form, kind, 0), "0");
                due(x.numberOrThrown(form, kind, 1), "0");
            }
        }
        for (int thing : NO_THING) {
            for (int kind : new int[] {3, 4, 6, 7}) {
                due(x.numberOrThrown(thing, kind, 0), "0");
                due(x.numberOrThrown(thing, kind, -1), "0");
            }
        }
    }

    private static void numberPlaces() {
        about("number: The number at place i .. ArrayIndexOutOfBoundsException: BEYOND");
        for (int form = 4; form <= 6; form++) {
            for (int n = 0; n <= 8; n++) {
                Line x = new Line();
                x.row(form, n);
                for (int i = 0; i < n; i++) {
                    x.put(0, form, i, 100 - i);
                }
                for (int i = 0; i < n; i++) {
                    due(x.numberOrThrown(0, form, i), "" + (100 - i));
                }
                for (int i : outside(0, n - 1)) {
                    due(x.numberOrThrown(0, form, i), BEYOND_THROWN);
                }
                due(x.numberOrThrown(0, form, 8), BEYOND_THROWN);
            }
        }
    }

    private static void numberCountsNone() {
        about("FINDINGS 1 .. 5 in all (number() counts none)");
        Line x = oneOfEach(1);
        due(x.numberOrThrown(0, 4, 0), CAST_THROWN);
        due(x.numberOrThrown(4, 5, 0), CAST_THROWN);
        due(x.numberOrThrown(4, 4, 1), BEYOND_THROWN);
        due(x.numberOrThrown(4, 4, -1), BEYOND_THROWN);
        for (int what = 5; what <= 10; what++) {
            due(x.count(what), 0);
        }
        due(x.side(0, 0), NONE);
    }

    // Promise 10
    private static void layKinds() {
        about("lay: TAKEN for a KIND (7 to 15) .. UNKNOWN: both; OUTSIDE");
        Line x = oneOfEach(1);
        for (int form = 0; form <= 15; form++) {
            for (int kind : outside(7, 15)) {
                due(x.lay(form, kind, 0, NONE), OUTSIDE);
                due(x.lay(form, kind, 1, 0), OUTSIDE);
            }
        }
        for (int thing : NO_THING) {
            for (int kind : new int[] {6, 7, 15, 16}) {
                due(x.lay(thing, kind, 0, 0), UNKNOWN);
                due(x.lay(thing, kind, 1, NONE), UNKNOWN);
                due(x.lay(thing, kind, 0, thing), UNKNOWN);
            }
        }
        due(x.count(6) + x.count(8) + x.count(9), 0);
    }

    private static void layOthers() {
        about("lay: becomes another THING (NONE: NOTHING) .. UNKNOWN: both");
        Line x = oneOfEach(1);
        for (int other : NO_THING) {
            due(x.lay(8, 8, 0, 2), 1);
            due(x.lay(8, 8, 0, other), other == NONE ? 1 : UNKNOWN);
            due(x.place(8, 8, 0), other == NONE ? NONE : 2);
            due(x.lay(8, 6, 0, other), other == NONE ? OUTSIDE : UNKNOWN);
            due(x.lay(8, 16, 0, other), other == NONE ? OUTSIDE : UNKNOWN);
            due(x.lay(0, 8, 0, other), other == NONE ? CAST : UNKNOWN);
            due(x.lay(8, 8, 1, other), other == NONE ? BEYOND : UNKNOWN);
        }
        due(x.count(6), 1);
        due(x.count(8), 1);
    }

    private static void layPlaces() {
        about("lay: Place i of a THING .. BEYOND");
        int[] member = {5, 2, 2, 2, 2, 10, 10, 10, 13};
        for (int form = 7; form <= 15; form++) {
            for (int n = 0; n <= 8; n++) {
                Line x = oneOfEach(n);
                int other = member[form - 7];
                for (int i = 0; i < n; i++) {
                    due(x.lay(form, form, i, other), 1);
                    due(x.place(form, form, i), other);
                }
                for (int i : outside(0, n - 1)) {
                    due(x.lay(form, form, i, other), BEYOND);
                    due(x.lay(form, form, i, NONE), BEYOND);
                }
                due(x.lay(form, form, 8, NONE), BEYOND);
                due(x.count(8), 9);
                for (int i = 0; i < n; i++) {
                    due(x.place(form, form, i), other);
                }
            }
        }
    }

    private static void layOrder() {
        about("lay: CAST: the first, then the other; BEYOND; STORE");
        Line x = oneOfEach(1);
        due(x.lay(10, 10, 0, 2), 1);
        due(x.lay(3, 8, 5, 3), CAST);
        due(x.lay(11, 8, 5, 0), CAST);
        due(x.lay(10, 8, 0, 3), CAST);
        due(x.lay(10, 8, 1, 3), CAST);
        due(x.count(6), 4);
        due(x.lay(10, 8, 1, 0), BEYOND);
        due(x.lay(10, 8, -1, 0), BEYOND);
        due(x.count(8), 2);
        due(x.lay(10, 8, 0, 0), STORE);
        due(x.lay(10, 9, 0, 1), STORE);
        due(x.lay(10, 11, 0, 3), STORE);
        due(x.lay(10, 10, 0, 0), CAST);
        due(x.count(9), 3);
        due(x.place(10, 10, 0), 2);
        due(x.count(5), 0);
        due(x.side(0, 0), NONE);
    }

    private static void layEach() {
        about("lay: TAKEN for what that KIND is a row of: 1 .. CAST; BEYOND; STORE");
        for (int form = 0; form <= 15; form++) {
            for (int kind = 7; kind <= 15; kind++) {
                Line x = oneOfEach(1);
                for (int other = 0; other <= 15; other++) {
                    boolean taken = isOf(form, kind) && isOf(other, rowOf(kind));
                    int inside = !taken ? CAST : isOf(other, rowOf(form)) ? 1 : STORE;
                    due(x.lay(form, kind, 0, other), inside);
                    due(x.lay(form, kind, 1, other), taken ? BEYOND : CAST);
                    if (inside == 1) {
                        due(x.place(form, kind, 0), other);
                    }
                }
                due(x.lay(form, kind, 0, NONE), isOf(form, kind) ? 1 : CAST);
                due(x.lay(form, kind, 1, NONE), isOf(form, kind) ? BEYOND : CAST);
            }
        }
    }

    // Promise 11
    private static void placeKinds() {
        about("place: TAKEN for a KIND (7 to 15); NONE. UNKNOWN; OUTSIDE; CAST, BEYOND");
        Line x = oneOfEach(1);
        int casts = 0, beyonds = 0;
        for (int form = 0; form <= 15; form++) {
            for (int kind = 7; kind <= 15; kind++) {
                boolean fits = isOf(form, kind);
                due(x.place(form, kind, 0), fits ? NONE : CAST);
                due(x.place(form, kind, 1), fits ? BEYOND : CAST);
                casts += fits ? 0 : 2;
                beyonds += fits ? 1 : 0;
            }
            for (int kind : outside(7, 15)) {
                due(x.place(form, kind, 1), OUTSIDE);
            }
        }
        for (int thing : NO_THING) {
            for (int kind : new int[] {6, 7, 15, 16}) {
                due(x.place(thing, kind, 1), UNKNOWN);
            }
        }
        due(x.count(6), casts);
        due(x.count(8), beyonds);
    }

    private static void placePlaces() {
        about("place: The THING at place i .. BEYOND");
        for (int n = 0; n <= 8; n++) {
            Line x = new Line();
            for (int k = 0; k < 8; k++) {
                x.thing(2, k);
            }
            for (int k = 8; k < 11; k++) {
                x.row(10, n);
                for (int i = 0; i < n; i++) {
                    x.lay(k, 10, i, (i + k) % 8);
                }
            }
            for (int kind = 8; kind <= 11; kind++) {
                for (int i = 0; i < n; i++) {
                    due(x.place(9, kind, i), (i + 9) % 8);
                }
                for (int i : outside(0, n - 1)) {
                    due(x.place(9, kind, i), BEYOND);
                }
                due(x.place(9, kind, 8), BEYOND);
            }
        }
    }

    // Promise 12
    private static void stationNumbers() {
        about("A STATION: its number. OUTSIDE: GATE (0 .. 17), WORK (0 .. 12)");
        Line x = new Line();
        for (int gate : outside(0, 17)) {
            due(x.station(gate, 0), OUTSIDE);
            due(x.station(gate, 12), OUTSIDE);
            due(x.station(gate, 13), OUTSIDE);
            due(x.station(gate, -1), OUTSIDE);
        }
        for (int work : outside(0, 12)) {
            due(x.station(0, work), OUTSIDE);
            due(x.station(17, work), OUTSIDE);
        }
        due(x.count(1), 0);
        due(x.slot(0), UNKNOWN);
        due(x.station(0, 0), 0);
        due(x.station(17, 12), 1);
        due(x.station(0, 12), 2);
        due(x.station(17, 0), 3);
        for (int gate = 0; gate <= 17; gate++) {
            for (int work = 0; work <= 12; work++) {
                due(new Line().station(gate, work), 0);
            }
        }
    }

    private static void stationFull() {
        about("station: OUTSIDE; FULL");
        Line x = oneOfEach(1);
        for (int k = 0; k < 8; k++) {
            due(x.station(k, HOLD), k);
        }
        due(x.station(17, HOLD), FULL);
        due(x.station(0, 0), FULL);
        due(x.station(17, 13), OUTSIDE);
        due(x.station(18, 12), OUTSIDE);
        due(x.station(-1, 0), OUTSIDE);
        due(x.station(0, -1), OUTSIDE);
        due(x.count(1), 8);
        due(sendAndStep(x, 8), PASSED);
        for (int k = 0; k < 8; k++) {
            due(sendAndStep(x, k), k == 1 || k == 2 ? 0 : k);
        }
    }

    // Promise 13
    private static void sendNumbers() {
        about("send: A THING comes behind on THE BELT: how many are there. UNKNOWN");
        Line x = oneOfEach(1);
        for (int thing : NO_THING) {
            due(x.send(thing), UNKNOWN);
        }
        due(x.count(2), 0);
        for (int thing = 15; thing >= 0; thing--) {
            due(x.send(thing), 16 - thing);
            due(x.belt(15 - thing), thing);
        }
        for (int thing : NO_THING) {
            due(x.send(thing), UNKNOWN);
        }
        due(x.count(2), 16);
        Line full = new Line();
        for (int k = 0; k < 100; k++) {
            full.thing(0, 0);
        }
        due(full.send(99), 1);
        due(full.send(100), UNKNOWN);
    }

    private static void sendFull() {
        about("send: UNKNOWN; FULL");
        Line x = oneOfEach(1);
        for (int k = 1; k <= 40; k++) {
            due(x.send(k % 16), k);
        }
        for (int thing = 0; thing <= 15; thing++) {
            due(x.send(thing), FULL);
        }
        for (int thing : NO_THING) {
            due(x.send(thing), UNKNOWN);
        }
        due(x.count(2), 40);
        for (int k = 1; k <= 40; k++) {
            due(x.belt(k - 1), k % 16);
        }
        due(x.run(2), 2);
        due(x.send(9), 39);
        due(x.send(10), 40);
        due(x.send(11), FULL);
        due(x.belt(38), 9);
        due(x.belt(39), 10);
    }

    // Promise 14
    private static void stepAnswers() {
        about("A STEP: the STATION; PASSED; NONE: THE BELT is empty; with a FINDING -20 less it");
        Line x = oneOfEach(1);
        for (int gate : new int[] {0, 4, 5, 6, 8, 12, 3, 7}) {
            x.station(gate, gate == 3 ? WEIGH : gate == 8 ? HEAP : HOLD);
        }
        due(x.step(), NONE);
        for (int what = 2; what <= 10; what++) {
            due(x.count(what), 0);
        }
        int[] sent = {0, 4, 5, 6, 12, 7, 3, 8, 15};
        int[] answers = {0, 1, 2, 3, 5, 7, CAST, NOTHING, PASSED};
        for (int thing : sent) {
            x.send(thing);
        }
        for (int answer : answers) {
            due(x.step(), answer);
        }
        due(x.step(), NONE);
        due(x.step(), NONE);
        due(x.count(3), 6);
        due(x.count(4), 1);
        due(x.count(5), 2);
    }

    // Promise 15
    private static void runNumbers() {
        about("run: n at most (0 .. 100) .. OUTSIDE");
        Line x = oneOfEach(1);
        x.send(0);
        for (int n : outside(0, 100)) {
            due(x.run(n), OUTSIDE);
        }
        due(x.count(2), 1);
        due(x.run(0), 0);
        due(x.count(2), 1);
        due(x.run(100), 1);
        due(x.count(2), 0);
        for (int n : new int[] {0, 1, 99, 100}) {
            due(x.run(n), 0);
        }
        for (int n : outside(0, 100)) {
            due(x.run(n), OUTSIDE);
        }
        due(x.count(4), 1);
    }

    private static void runSteps() {
        about("run: STEPS, n at most, as long as THE BELT is not empty");
        for (int onIt : new int[] {0, 1, 2, 39, 40}) {
            for (int n : new int[] {0, 1, 2, 38, 39, 40, 41, 100}) {
                Line x = oneOfEach(1);
                sendOften(x, 0, onIt);
                int steps = Math.min(n, onIt);
                due(x.run(n), steps);
                due(x.count(2), onIt - steps);
                due(x.count(4), steps);
                due(x.run(100), onIt - steps);
                due(x.step(), NONE);
            }
        }
    }

    /** What is spilled comes behind the 40 and finds 40 places at most, so that no run has more than 80 STEPS. */
    private static void runEighty() {
        about("run: STEPS, n at most (0 .. 100): what comes on THE BELT meanwhile is stepped, too");
        for (int n : new int[] {39, 40, 41, 79, 80, 81, 100}) {
            Line x = new Line();
            int parcel = x.thing(0, 3), bytes = x.row(4, 0);
            x.station(0, WEIGH);
            x.station(8, SPILL);
            for (int k = 0; k < 5; k++) {
                int row = x.row(8, 8);
                for (int i = 0; i < 8; i++) {
                    x.lay(row, 8, i, parcel);
                }
                sendOften(x, bytes, 7);
                x.send(row);
            }
            int steps = Math.min(n, 80);
            due(x.count(2), 40);
            due(x.run(n), steps);
            due(x.count(2), n < 40 ? 33 : 80 - steps);
            due(x.total(0), 3 * Math.max(0, steps - 40));
            due(x.count(4), 35);
        }
    }

    private static void runAnswers() {
        about("run: how many were without FINDING, and 1000 times how many were with one");
        for (int failing : new int[] {0, 1, 39, 40}) {
            Line x = oneOfEach(1);
            x.station(0, WEIGH);
            x.station(3, WEIGH);
            sendOften(x, 3, failing);
            for (int k = failing; k < 40; k++) {
                x.send(k % 2 == 0 ? 0 : 4);
            }
            due(x.run(100), 1000 * failing + 40 - failing);
            due(x.count(5), failing);
            due(x.count(6), failing);
            due(x.count(3) + x.count(4), 40 - failing);
        }
    }

    // Promise 16
    private static void totals() {
        about("TOTAL of a STATION. 0: UNKNOWN");
        int[] works = {ADD_BYTES, ADD_INTS, ADD_LONGS, CELL, HEAP, KEYS, CORNER, DEPTH};
        long[] totals = {11, 12, 13, 12, 5, 28, 5, 5};
        for (int made = 0; made <= 8; made++) {
            Line x = oneOfEach(1);
            fillEach(x);
            for (int k = 0; k < made; k++) {
                due(x.total(k), 0);
                due(x.station(GATES[k], works[k]), k);
                due(x.total(k), 0);
                due(sendAndStep(x, GATES[k]), k);
            }
            for (int k = 0; k < made; k++) {
                due(x.total(k), totals[k]);
            }
            for (int station : outside(0, made - 1)) {
                due(x.total(station), 0);
            }
            due(x.total(8), 0);
        }
    }

    private static void fillEach(Line x) {
        for (int form = 4; form <= 6; form++) {
            x.put(form, form, 0, 7 + form);
        }
        x.lay(7, 7, 0, 5);
        x.lay(8, 8, 0, 0);
        x.lay(11, 11, 0, 3);
        x.lay(12, 12, 0, 8);
        x.lay(15, 15, 0, 12);
    }

    // Promise 17
    private static void slots() {
        about("What the SLOT of a STATION holds: a THING; NONE. UNKNOWN");
        for (int made = 0; made <= 8; made++) {
            Line x = oneOfEach(1);
            for (int k = 0; k < made; k++) {
                due(x.slot(k), UNKNOWN);
                due(x.station(GATES[k], HOLD), k);
                due(x.slot(k), NONE);
                due(sendAndStep(x, GATES[k]), k);
            }
            for (int k = 0; k < made; k++) {
                due(x.slot(k), GATES[k]);
            }
            for (int station : outside(0, made - 1)) {
                due(x.slot(station), UNKNOWN);
            }
            due(x.slot(8), UNKNOWN);
        }
    }

    // Promise 18
    private static void belts() {
        about("The THING at place i of THE BELT, from the first on; NONE");
        for (int onIt : new int[] {0, 1, 2, 39, 40}) {
            Line x = oneOfEach(1);
            sendOften(x, 15, 30);
            x.run(30);
            for (int k = 0; k < onIt; k++) {
                x.send(k % 16);
            }
            for (int i = 0; i < onIt; i++) {
                due(x.belt(i), i % 16);
            }
            for (int i : outside(0, onIt - 1)) {
                due(x.belt(i), NONE);
            }
            for (int i : new int[] {39, 40, 41}) {
                due(x.belt(i), i < onIt ? i % 16 : NONE);
            }
        }
    }

    // Promise 19
    private static void sides() {
        about("Of THE SIDE, i from the latest one on (0 .. 19) .. NONE: there is none such. OUTSIDE: what");
        for (int came : new int[] {0, 1, 19, 20, 21, 45}) {
            Line x = oneOfEach(1);
            x.station(17, WEIGH);
            for (int k = 0; k < came; k++) {
                sendAndStep(x, 3 + k % 13);
            }
            int told = Math.min(came, 20);
            for (int i = 0; i < told; i++) {
                due(x.side(i, 0), 3 + (came - 1 - i) % 13);
                due(x.side(i, 1), 0);
                due(x.side(i, 2), 1);
            }
            for (int i : outside(0, told - 1)) {
                for (int what = 0; what <= 2; what++) {
                    due(x.side(i, what), NONE);
                }
            }
            for (int i : new int[] {LEAST, -1, 0, 19, 20, MOST}) {
                for (int what : outside(0, 2)) {
                    due(x.side(i, what), OUTSIDE);
                }
            }
        }
    }

    // Promise 20
    private static void counts() {
        about("count: 0 THINGS, 1 STATIONS, 2 on THE BELT, 3 .. 5 STEPS, 6 .. 10 FINDINGS. OUTSIDE");
        Line x = oneOfEach(1);
        for (int what : outside(0, 10)) {
            due(x.count(what), OUTSIDE);
        }
        x.station(0, WEIGH);
        x.station(8, HEAP);
        x.station(3, WEIGH);
        x.station(12, CORNER);
        int emptyPile = x.row(12, 0);
        for (int thing : new int[] {0, 1, 4, 4, 4, 3, 3, 3, 3, 8, 9, emptyPile, 2}) {
            x.send(thing);
        }
        due(x.run(12), 7005);
        int[] counts = {17, 4, 1, 2, 3, 7, 4, 2, 1, 0, 0};
        for (int what = 0; what <= 10; what++) {
            due(x.count(what), counts[what]);
        }
        for (int what : outside(0, 10)) {
            due(x.count(what), OUTSIDE);
        }
    }

    private static void countsOfFindings() {
        about("count: FINDINGS 1 .. 5 in all (of calls, too; weight() does)");
        Line x = oneOfEach(1);
        x.weight(3, 0);
        x.length(3, 4);
        x.put(3, 4, 0, 1);
        x.lay(3, 8, 0, 0);
        x.lay(8, 8, 0, 3);
        x.place(3, 8, 0);
        due(x.count(6), 6);
        x.put(4, 4, 1, 1);
        x.lay(8, 8, 1, 0);
        x.place(8, 8, 1);
        due(x.count(8), 3);
        x.lay(9, 8, 0, 0);
        due(x.count(9), 1);
        x.row(4, -1);
        due(x.count(10), 1);
        due(x.count(7), 0);
        for (int what = 2; what <= 5; what++) {
            due(x.count(what), 0);
        }
        x.station(8, HEAP);
        sendAndStep(x, 8);
        due(x.count(7), 1);
        due(x.count(5), 1);
    }

    // Promise 21
    private static void clearOfNothing() {
        about("clear: how many THINGS there were");
        Line x = new Line();
        due(x.clear(), 0);
        for (int made : new int[] {1, 2, 99, 100}) {
            for (int k = 0; k < made; k++) {
                x.thing(0, 0);
            }
            due(x.clear(), made);
            due(x.clear(), 0);
            due(x.count(0), 0);
        }
        x.station(0, 0);
        x.row(4, -1);
        due(x.clear(), 0);
        due(x.count(1), 0);
        due(x.count(10), 0);
    }

    private static void clearOfAll() {
        about("clear: All is as at the beginning");
        Line x = new Line();
        fill(x);
        due(x.thing(0, 0), FULL);
        due(x.station(0, 0), FULL);
        due(x.send(0), FULL);
        due(x.clear(), 100);
        for (int what = 0; what <= 10; what++) {
            due(x.count(what), 0);
        }
        for (int thing : new int[] {0, 99}) {
            dueNoThing(x, thing);
        }
        for (int k = 0; k < 8; k++) {
            due(x.slot(k), UNKNOWN);
            due(x.total(k), 0);
        }
        for (int what = 0; what <= 2; what++) {
            due(x.side(0, what), NONE);
            due(x.side(19, what), NONE);
        }
        due(x.belt(0), NONE);
        due(x.belt(39), NONE);
        due(x.step(), NONE);
        due(x.run(100), 0);
        dueFresh(x);
    }

    private static void clearedTakesAsMuchAgain() {
        about("clear: All is as at the beginning: as much can be made as before");
        Line x = new Line();
        for (int round = 0; round < 2; round++) {
            fill(x);
            due(x.thing(0, 0), FULL);
            due(x.row(4, 0), FULL);
            due(x.station(0, 0), FULL);
            due(x.send(0), FULL);
            due(x.belt(39), 0);
            due(x.side(0, 2), 2);
            due(x.side(19, 2), 1);
            due(x.total(1), 4);
            due(x.slot(1), 4);
            due(x.clear(), 100);
        }
    }

    /** 100 THINGS, 8 STATIONS, a full BELT, a full SIDE, STEPS and FINDINGS of each sort. */
    private static void fill(Line x) {
        x.row(6, 8);
        x.row(8, 8);
        due(x.row(9, -1), SIZE);
        for (int k = 2; k < 99; k++) {
            x.thing(k % 4, k);
        }
        x.row(9, 1);
        for (int i = 0; i < 8; i++) {
            x.put(0, 6, i, -7);
            x.lay(1, 8, i, 4);
        }
        due(sendAndStep(x, 2), PASSED);
        x.station(3, WEIGH);
        x.station(0, WEIGH);
        x.station(6, ADD_LONGS);
        for (int k = 3; k < 8; k++) {
            x.station(8, HEAP);
        }
        sendOften(x, 3, 25);
        x.send(4);
        x.send(0);
        x.send(1);
        due(x.run(100), 25003);
        x.lay(1, 8, 7, NONE);
        due(sendAndStep(x, 1), NOTHING);
        due(x.place(1, 8, 8), BEYOND);
        due(x.lay(99, 8, 0, 4), STORE);
        int[] counts = {100, 8, 0, 3, 1, 26, 25, 1, 1, 1, 1};
        for (int what = 0; what <= 10; what++) {
            due(x.count(what), counts[what]);
        }
        sendOften(x, 0, 40);
    }

    private static void dueFresh(Line x) {
        due(x.row(8, 8), 0);
        due(x.row(6, 8), 1);
        due(x.thing(3, -1), 2);
        for (int i = 0; i < 8; i++) {
            due(x.place(0, 8, i), NONE);
            due(x.number(1, 6, i), 0);
        }
        due(x.more(2), 16);
        due(x.more(3), UNKNOWN);
        due(x.station(17, HOLD), 0);
        due(x.total(0), 0);
        due(x.slot(0), NONE);
        due(x.send(2), 1);
        due(x.belt(0), 2);
        due(x.belt(1), NONE);
        due(x.step(), 0);
        due(x.slot(0), 2);
        due(x.count(3), 1);
        due(x.count(5), 0);
        dueSideAgain(x);
    }

    private static void dueSideAgain(Line x) {
        due(x.clear(), 3);
        x.thing(3, 0);
        x.station(17, WEIGH);
        for (int came = 1; came <= 2; came++) {
            due(sendAndStep(x, 0), CAST);
            due(x.side(came - 1, 0), 0);
            due(x.side(came - 1, 1), 0);
            due(x.side(came - 1, 2), 1);
            due(x.side(came, 0), NONE);
        }
        due(x.count(5), 2);
        due(x.count(6), 2);
    }
}
