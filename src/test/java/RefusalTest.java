import java.util.ArrayList;
import java.util.HashMap;
import java.util.List;
import java.util.Map;

/**
 * 'Refused, and nothing changes: UNKNOWN, OUTSIDE, FULL: the first of these that fits, ahead of FINDINGS.'
 *
 * Each call that is refused, or has a FINDING, is made on one of two objects that were brought to the same state;
 * behind it the two must tell the same of all that can be asked, and go on alike. What can be asked is more than 512
 * calls, so it is asked in parts, each of a new pair.
 */
public final class RefusalTest extends Checks {
    private static final int[] PLACES = {LEAST, -1, 0, 1, 2, MOST};
    private static final int PART_OF_THINGS = 10;

    private interface Call {
        long on(Line x);
    }

    /** How a new object is brought to a state; THINGS 0 to 15 are as oneOfEach(2) makes them. */
    private enum State {
        ROOMY(16), FULL_UP(100);

        final int made;
        private final Map<Integer, List<Long>> untouched = new HashMap<>();

        State(int made) {
            this.made = made;
        }

        Line make() {
            Line x = oneOfEach(2);
            for (int k = 16; k < made; k++) {
                x.thing((k + 1) % 4, k);
            }
            fillRows(x);
            makeStations(x);
            for (int k = 0; k < (this == ROOMY ? 3 : 20); k++) {
                x.send(k % 3 == 2 ? 5 : 4);
            }
            x.run(100);
            for (int k = 0; k < (this == ROOMY ? 5 : 40); k++) {
                x.send(k * 7 % 16);
            }
            return x;
        }

        private static void fillRows(Line x) {
            for (int form = 4; form <= 6; form++) {
                x.put(form, form, 0, form * 10);
                x.put(form, form, 1, -form);
            }
            x.lay(7, 7, 0, 5);
            x.lay(8, 8, 1, 0);
            x.lay(9, 9, 0, 1);
            x.lay(9, 9, 1, 2);
            x.lay(10, 10, 0, 2);
            x.lay(11, 11, 1, 3);
            x.lay(12, 12, 0, 9);
            x.lay(13, 13, 0, 9);
            x.lay(14, 14, 1, 10);
            x.lay(15, 15, 0, 13);
        }

        private void makeStations(Line x) {
            int[][] gatesAndWorks = {{0, WEIGH}, {3, OPEN}, {4, OPEN}, {5, WEIGH}, {8, HEAP}, {12, CORNER},
                {15, DEPTH}, {7, HOLD}};
            for (int k = 0; k < (this == ROOMY ? 4 : 8); k++) {
                x.station(gatesAndWorks[k][0], gatesAndWorks[k][1]);
            }
        }

        int parts() {
            return 2 + (made + PART_OF_THINGS - 1) / PART_OF_THINGS;
        }

        List<Long> untouched(int part) {
            return untouched.computeIfAbsent(part, p -> look(make(), p));
        }

        boolean has(int thing) {
            return thing >= 0 && thing < made;
        }

        /** Numbers of no THING, beside and far from those that there are. */
        int[] thingsThatAreNot() {
            return new int[] {LEAST, PASSED, NONE, UNKNOWN, made, MOST};
        }
    }

    private static List<Long> look(Line x, int part) {
        List<Long> seen = new ArrayList<>();
        List<Long> answers = new ArrayList<>();
        if (part == 1) {
            goOn(x, answers);
        }
        if (part <= 1) {
            lookAtLine(x, seen);
        } else {
            lookAtThings(x, (part - 2) * PART_OF_THINGS, seen);
        }
        seen.addAll(answers);
        return seen;
    }

    private static void lookAtLine(Line x, List<Long> seen) {
        for (int what = 0; what <= 10; what++) {
            seen.add((long) x.count(what));
        }
        for (int station = 0; station <= 8; station++) {
            seen.add(x.total(station));
            seen.add((long) x.slot(station));
        }
        for (int i = 0; i <= 40; i++) {
            seen.add((long) x.belt(i));
        }
        for (int i = 0; i <= 20; i++) {
            for (int what = 0; what <= 2; what++) {
                seen.add((long) x.side(i, what));
            }
        }
    }

    /** GATES, WORKS and the WEIGHTS of BAGS can not be asked, but show in what comes of the BELT. */
    private static void goOn(Line x, List<Long> answers) {
        answers.add((long) x.run(100));
        answers.add((long) x.thing(3, 9));
        answers.add((long) x.row(8, 1));
        answers.add((long) x.station(17, OPEN));
        for (int thing = 0; thing <= 16; thing++) {
            answers.add((long) sendAndStep(x, thing));
        }
    }

    private static void lookAtThings(Line x, int from, List<Long> seen) {
        int made = x.count(0);
        for (int thing = from; thing < Math.min(from + PART_OF_THINGS, made); thing++) {
            seen.add((long) x.more(thing));
            int rowKind = NONE;
            for (int kind = 17; kind >= 0; kind--) {
                int is = x.is(thing, kind);
                seen.add((long) is);
                rowKind = is == 1 && kind >= 4 && kind <= 15 ? kind : rowKind;
            }
            seen.add(x.is(thing, 0) == 1 ? x.weight(thing, 0) : 0L);
            for (int i = 0; rowKind != NONE && i < x.length(thing, rowKind); i++) {
                seen.add(rowKind <= 6 ? x.number(thing, rowKind, i) : x.place(thing, rowKind, i));
            }
        }
    }

    public static void main(String[] args) {
        statesAreAsMeant();
        for (State state : State.values()) {
            about("Refused, and nothing changes (" + state + ")");
            makings(state);
            stations(state);
            sends(state);
            runs(state);
            kinds(state);
            weights(state);
            lengths(state);
            puts(state);
            numbers(state);
            places(state);
            lays(state);
            asks(state);
        }
        finish();
    }

    private static void statesAreAsMeant() {
        about("the states that calls are refused in");
        Line roomy = State.ROOMY.make();
        int[] some = {16, 4, 5, 0, 0, 3};
        Line full = State.FULL_UP.make();
        int[] most = {100, 8, 40, 0, 0, 20};
        for (int what = 0; what < some.length; what++) {
            due(roomy.count(what), some[what]);
            due(full.count(what), most[what]);
        }
    }

    /** Makes the call on a new object for each part; with a FINDING its count, and no more, has grown. */
    private static void check(State state, long want, Call call) {
        int finding = want <= CAST && want >= SIZE ? (int) (-20 - want) : 0;
        checkChange(state, want, finding, call);
    }

    private static void checkChange(State state, long want, int finding, Call call) {
        for (int part = 0; part < state.parts(); part++) {
            Line x = state.make();
            due(call.on(x), want);
            String named = Line.latestCall();
            List<Long> wanted = new ArrayList<>(state.untouched(part));
            if (finding != 0 && part <= 1) {
                // The counts are looked at first, so that count(what) stands at place 'what'.
                wanted.set(5 + finding, wanted.get(5 + finding) + 1);
            }
            if (!wanted.equals(look(x, part))) {
                tell(named + " changes what is told in part " + part);
            }
        }
    }

    private static boolean within(int number, int least, int most) {
        return number >= least && number <= most;
    }

    private static void makings(State state) {
        for (int form : new int[] {LEAST, -1, 0, 3, 4, MOST}) {
            for (int weight : new int[] {LEAST, -1001, -1000, 1000, 1001, MOST}) {
                boolean outside = !within(form, 0, 3) || !within(weight, -1000, 1000);
                if (outside || state.made == 100) {
                    check(state, outside ? OUTSIDE : FULL, x -> x.thing(form, weight));
                }
            }
        }
        for (int form : new int[] {LEAST, 3, 4, 15, 16, MOST}) {
            for (int n : new int[] {LEAST, -1, 0, 8, 9, MOST}) {
                boolean outside = !within(form, 4, 15) || n > 8;
                int want = outside ? OUTSIDE : state.made == 100 ? FULL : n < 0 ? SIZE : 1;
                if (want != 1) {
                    check(state, want, x -> x.row(form, n));
                }
            }
        }
    }

    private static void stations(State state) {
        for (int gate : new int[] {LEAST, -1, 0, 17, 18, MOST}) {
            for (int work : new int[] {LEAST, -1, 0, 12, 13, MOST}) {
                boolean outside = !within(gate, 0, 17) || !within(work, 0, 12);
                if (outside || state == State.FULL_UP) {
                    check(state, outside ? OUTSIDE : FULL, x -> x.station(gate, work));
                }
            }
        }
    }

    private static void sends(State state) {
        for (int thing : state.thingsThatAreNot()) {
            check(state, UNKNOWN, x -> x.send(thing));
        }
        if (state == State.FULL_UP) {
            check(state, FULL, x -> x.send(0));
            check(state, FULL, x -> x.send(99));
        }
    }

    private static void runs(State state) {
        for (int n : outside(0, 100)) {
            check(state, OUTSIDE, x -> x.run(n));
        }
        check(state, 0, x -> x.run(0));
    }

    private static void kinds(State state) {
        for (int thing : state.thingsThatAreNot()) {
            check(state, UNKNOWN, x -> x.more(thing));
            for (int kind : new int[] {-1, 0, 17, 18}) {
                check(state, UNKNOWN, x -> x.is(thing, kind));
            }
        }
        for (int kind : outside(0, 17)) {
            check(state, OUTSIDE, x -> x.is(0, kind));
            check(state, OUTSIDE, x -> x.is(state.made - 1, kind));
        }
    }

    private static List<Integer> someThings(State state, int... known) {
        List<Integer> things = new ArrayList<>();
        for (int thing : state.thingsThatAreNot()) {
            things.add(thing);
        }
        for (int thing : known) {
            things.add(thing);
        }
        return things;
    }

    private static void weights(State state) {
        for (int thing : someThings(state, 0, 1, 2, 3, 4, 8)) {
            for (int kind : new int[] {LEAST, -1, 0, 1, 2, 3, MOST}) {
                int want = dueOfTaking(state, thing, kind, 0, 2);
                int finding = want == CAST ? 1 : 0;
                if (want != 1) {
                    checkChange(state, -2000000000L + want, finding, x -> x.weight(thing, kind));
                }
            }
        }
    }

    /** The refusal or CAST of a THING that is TAKEN for a KIND; 1 if there is none. */
    private static int dueOfTaking(State state, int thing, int kind, int leastKind, int mostKind) {
        if (!state.has(thing)) {
            return UNKNOWN;
        }
        if (!within(kind, leastKind, mostKind)) {
            return OUTSIDE;
        }
        return isOf(thing, kind) ? 1 : CAST;
    }

    private static int dueAtPlace(int taking, int i) {
        return taking != 1 || within(i, 0, 1) ? taking : BEYOND;
    }

    private static void lengths(State state) {
        for (int thing : someThings(state, 0, 4, 9, 15)) {
            for (int kind : new int[] {LEAST, 3, 4, 8, 15, 16, MOST}) {
                int want = dueOfTaking(state, thing, kind, 4, 15);
                if (want != 1) {
                    check(state, want, x -> x.length(thing, kind));
                }
            }
        }
    }

    private static void puts(State state) {
        for (int thing : someThings(state, 0, 4, 5, 6, 7)) {
            for (int kind : new int[] {LEAST, 3, 4, 5, 6, 7, MOST}) {
                for (int i : PLACES) {
                    int want = dueAtPlace(dueOfTaking(state, thing, kind, 4, 6), i);
                    if (want != 1) {
                        check(state, want, x -> x.put(thing, kind, i, 77));
                    }
                }
            }
        }
    }

    private static void numbers(State state) {
        for (int thing : someThings(state, 0, 5)) {
            for (int kind : new int[] {3, 4, 5, 6, 7}) {
                for (int i : PLACES) {
                    int want = dueAtPlace(dueOfTaking(state, thing, kind, 4, 6), i);
                    int answer = want == CAST || want == BEYOND ? want : 0;
                    if (want != 1) {
                        checkChange(state, answer, 0, x -> thrownAsFinding(x, thing, kind, i));
                    }
                }
            }
        }
    }

    private static long thrownAsFinding(Line x, int thing, int kind, int i) {
        try {
            return x.number(thing, kind, i);
        } catch (ClassCastException e) {
            return CAST;
        } catch (ArrayIndexOutOfBoundsException e) {
            return BEYOND;
        }
    }

    private static void places(State state) {
        for (int thing : someThings(state, 0, 7, 9, 15)) {
            for (int kind : new int[] {6, 7, 8, 15, 16}) {
                for (int i : PLACES) {
                    int want = dueAtPlace(dueOfTaking(state, thing, kind, 7, 15), i);
                    if (want != 1) {
                        check(state, want, x -> x.place(thing, kind, i));
                    }
                }
            }
        }
    }

    private static void lays(State state) {
        boolean roomy = state == State.ROOMY;
        int[] kinds = roomy ? new int[] {6, 7, 8, 9, 11, 12, 15, 16} : new int[] {6, 8};
        int[] places = roomy ? new int[] {-1, 0, 1, 2} : new int[] {1, 2};
        for (int thing : someThings(state, 3, 9, 10, 13)) {
            for (int other : someThings(state, 0, 3, 8, 9)) {
                for (int kind : kinds) {
                    for (int i : places) {
                        int want = dueOfLay(state, thing, kind, i, other);
                        if (want != 1) {
                            check(state, want, x -> x.lay(thing, kind, i, other));
                        }
                    }
                }
            }
        }
    }

    private static int dueOfLay(State state, int thing, int kind, int i, int other) {
        if (other != NONE && !state.has(other)) {
            return UNKNOWN;
        }
        int taking = dueOfTaking(state, thing, kind, 7, 15);
        if (taking != 1) {
            return taking;
        }
        if (other != NONE && !isOf(other, rowOf(kind))) {
            return CAST;
        }
        if (!within(i, 0, 1)) {
            return BEYOND;
        }
        return other == NONE || isOf(other, rowOf(thing)) ? 1 : STORE;
    }

    /** Calls that ask, whether or not there is something to tell. */
    private static void asks(State state) {
        for (int number : new int[] {LEAST, -1, 0, 7, 8, 20, 40, MOST}) {
            int stations = state == State.ROOMY ? 4 : 8;
            if (!within(number, 0, stations - 1)) {
                check(state, UNKNOWN, x -> x.slot(number));
                check(state, 0, x -> x.total(number));
            }
            if (!within(number, 0, 39)) {
                check(state, NONE, x -> x.belt(number));
            }
            if (!within(number, 0, 19)) {
                check(state, NONE, x -> x.side(number, 0));
            }
            check(state, OUTSIDE, x -> x.side(number, 3));
            check(state, OUTSIDE, x -> x.side(number, -1));
        }
        for (int what : outside(0, 10)) {
            check(state, OUTSIDE, x -> x.count(what));
        }
        check(state, 16, x -> x.more(3));
        check(state, 15, x -> x.weight(1, 0));
        check(state, 2, x -> x.length(9, 8));
        check(state, -5, x -> x.number(5, 5, 1));
        check(state, 13, x -> x.place(15, 15, 0));
    }
}
