import java.util.ArrayList;
import java.util.Arrays;
import java.util.List;
import java.util.Random;

/** Runs of mixed calls against a model whose THINGS are real objects and arrays of the Java machine. */
public final class ModelTest {
    private static final int UNKNOWN = -1, OUTSIDE = -2, FULL = -4, NONE = -5, PASSED = -6;
    private static final int RUNS = 4000, CALLS = 512, MOST_SHOWN = 20;

    private static class Parcel {
        final int weight;

        Parcel(int weight) {
            this.weight = weight;
        }
    }

    private static class Crate extends Parcel {
        Crate(int weight) {
            super(weight);
        }
    }

    private interface Locked {
        int key();
    }

    private static final class Safe extends Crate implements Locked {
        Safe(int weight) {
            super(weight);
        }

        public int key() {
            return weight * 3 + 1;
        }
    }

    private static final class Bag implements Locked {
        final int weight;

        Bag(int weight) {
            this.weight = weight;
        }

        public int key() {
            return weight - 7;
        }
    }

    private static final Class<?>[] KINDS = {
        Parcel.class, Crate.class, Safe.class, Bag.class, byte[].class, int[].class, long[].class, int[][].class,
        Parcel[].class, Crate[].class, Safe[].class, Locked[].class, Parcel[][].class, Crate[][].class,
        Locked[][].class, Parcel[][][].class, Locked.class, Object.class,
    };

    private static final class Station {
        final int gate;
        final int work;
        long total = 0;
        Object slot = null;

        Station(int gate, int work) {
            this.gate = gate;
            this.work = work;
        }
    }

    /** The document's words, done by the machine: its exceptions are the FINDINGS. */
    private static final class Model {
        private final List<Object> things = new ArrayList<>();
        private final List<Station> stations = new ArrayList<>();
        private final List<Object> belt = new ArrayList<>();
        private final List<int[]> side = new ArrayList<>();
        private final int[] counts = new int[11];

        private int numberOf(Object thing) {
            for (int k = 0; k < things.size(); k++) {
                if (things.get(k) == thing) {
                    return k;
                }
            }
            return NONE;
        }

        private boolean unknown(int thing) {
            return thing < 0 || thing >= things.size();
        }

        private static int findingOf(RuntimeException e) {
            if (e instanceof ClassCastException) {
                return 1;
            }
            if (e instanceof NullPointerException) {
                return 2;
            }
            if (e instanceof ArrayIndexOutOfBoundsException) {
                return 3;
            }
            if (e instanceof ArrayStoreException) {
                return 4;
            }
            if (e instanceof NegativeArraySizeException) {
                return 5;
            }
            throw e;
        }

        private int found(RuntimeException e) {
            int finding = findingOf(e);
            counts[5 + finding]++;
            return -20 - finding;
        }

        private int add(Object thing) {
            things.add(thing);
            return things.size() - 1;
        }

        int thing(int form, int weight) {
            if (form < 0 || form > 3 || weight < -1000 || weight > 1000) {
                return OUTSIDE;
            }
            if (things.size() == 100) {
                return FULL;
            }
            switch (form) {
                case 0: return add(new Parcel(weight));
                case 1: return add(new Crate(weight));
                case 2: return add(new Safe(weight));
                default: return add(new Bag(weight));
            }
        }

        int row(int form, int n) {
            if (form < 4 || form > 15 || n > 8) {
                return OUTSIDE;
            }
            if (things.size() == 100) {
                return FULL;
            }
            try {
                return add(java.lang.reflect.Array.newInstance(KINDS[form].getComponentType(), n));
            } catch (RuntimeException e) {
                return found(e);
            }
        }

        int is(int thing, int kind) {
            if (unknown(thing)) {
                return UNKNOWN;
            }
            if (kind < 0 || kind > 17) {
                return OUTSIDE;
            }
            return KINDS[kind].isInstance(things.get(thing)) ? 1 : 0;
        }

        int more(int thing) {
            if (unknown(thing)) {
                return UNKNOWN;
            }
            Object it = things.get(thing);
            for (int kind = 0; kind < 17; kind++) {
                if (KINDS[kind] != it.getClass() && KINDS[kind].isInstance(it)) {
                    return kind;
                }
            }
            return NONE;
        }

        int weight(int thing, int kind) {
            if (unknown(thing)) {
                return -2000000001;
            }
            if (kind < 0 || kind > 2) {
                return -2000000002;
            }
            try {
                return ((Parcel) KINDS[kind].cast(things.get(thing))).weight;
            } catch (RuntimeException e) {
                return -2000000000 + found(e);
            }
        }

        int length(int thing, int kind) {
            if (unknown(thing)) {
                return UNKNOWN;
            }
            if (kind < 4 || kind > 15) {
                return OUTSIDE;
            }
            try {
                return java.lang.reflect.Array.getLength(KINDS[kind].cast(things.get(thing)));
            } catch (RuntimeException e) {
                return found(e);
            }
        }

        int put(int thing, int kind, int i, long v) {
            if (unknown(thing)) {
                return UNKNOWN;
            }
            if (kind < 4 || kind > 6) {
                return OUTSIDE;
            }
            try {
                Object it = things.get(thing);
                switch (kind) {
                    case 4: ((byte[]) it)[i] = (byte) v; break;
                    case 5: ((int[]) it)[i] = (int) v; break;
                    default: ((long[]) it)[i] = v;
                }
                return 1;
            } catch (RuntimeException e) {
                return found(e);
            }
        }

        long number(int thing, int kind, int i) {
            if (unknown(thing) || kind < 4 || kind > 6) {
                return 0;
            }
            Object it = things.get(thing);
            switch (kind) {
                case 4: return ((byte[]) it)[i];
                case 5: return ((int[]) it)[i];
                default: return ((long[]) it)[i];
            }
        }

        int lay(int thing, int kind, int i, int other) {
            if (unknown(thing) || other != NONE && unknown(other)) {
                return UNKNOWN;
            }
            if (kind < 7 || kind > 15) {
                return OUTSIDE;
            }
            try {
                Object[] row = (Object[]) KINDS[kind].cast(things.get(thing));
                row[i] = KINDS[kind].getComponentType().cast(other == NONE ? null : things.get(other));
                return 1;
            } catch (RuntimeException e) {
                return found(e);
            }
        }

        int place(int thing, int kind, int i) {
            if (unknown(thing)) {
                return UNKNOWN;
            }
            if (kind < 7 || kind > 15) {
                return OUTSIDE;
            }
            try {
                return numberOf(((Object[]) KINDS[kind].cast(things.get(thing)))[i]);
            } catch (RuntimeException e) {
                return found(e);
            }
        }

        int station(int gate, int work) {
            if (gate < 0 || gate > 17 || work < 0 || work > 12) {
                return OUTSIDE;
            }
            if (stations.size() == 8) {
                return FULL;
            }
            stations.add(new Station(gate, work));
            return stations.size() - 1;
        }

        int send(int thing) {
            if (unknown(thing)) {
                return UNKNOWN;
            }
            if (belt.size() == 40) {
                return FULL;
            }
            belt.add(things.get(thing));
            return belt.size();
        }

        int step() {
            if (belt.isEmpty()) {
                return NONE;
            }
            Object it = belt.remove(0);
            for (int k = 0; k < stations.size(); k++) {
                if (KINDS[stations.get(k).gate].isInstance(it)) {
                    return stepAt(k, it);
                }
            }
            counts[4]++;
            return PASSED;
        }

        private int stepAt(int k, Object it) {
            try {
                work(stations.get(k), it);
                counts[3]++;
                return k;
            } catch (RuntimeException e) {
                counts[5]++;
                side.add(0, new int[] {numberOf(it), k, findingOf(e)});
                return found(e);
            }
        }

        private void work(Station s, Object it) {
            switch (s.work) {
                case 0: s.total += ((Parcel) it).weight; s.slot = it; break;
                case 1: s.total += ((Locked) it).key(); break;
                case 2: s.total += Arrays.stream((int[]) it).asLongStream().sum(); break;
                case 3: s.total += Arrays.stream((long[]) it).sum(); break;
                case 4: s.total += sumOf((byte[]) it); break;
                case 5: s.total += Arrays.stream((Parcel[]) it).mapToLong(p -> p.weight).sum(); break;
                case 6: pack(s, (Parcel[]) it); break;
                case 7: s.total += ((Parcel[][]) it)[0][0].weight; break;
                case 8: s.total += ((int[][]) it)[0][0]; break;
                case 9: s.total += ((Parcel[][][]) it)[0][0][0].weight; break;
                case 10: s.total += Arrays.stream((Locked[]) it).mapToLong(Locked::key).sum(); break;
                case 11: spill((Parcel[]) it); break;
                default: s.slot = it;
            }
        }

        private static long sumOf(byte[] bytes) {
            long sum = 0;
            for (byte one : bytes) {
                sum += one;
            }
            return sum;
        }

        private static void pack(Station s, Parcel[] row) {
            Parcel held = (Parcel) s.slot;
            row[0] = held;
            s.slot = null;
        }

        private void spill(Parcel[] row) {
            for (int i = 0; i < row.length && belt.size() < 40; i++) {
                if (row[i] != null) {
                    belt.add(row[i]);
                    row[i] = null;
                }
            }
        }

        int run(int n) {
            if (n < 0 || n > 100) {
                return OUTSIDE;
            }
            int without = 0;
            int with = 0;
            for (int k = 0; k < n && !belt.isEmpty(); k++) {
                if (step() <= -21) {
                    with++;
                } else {
                    without++;
                }
            }
            return without + 1000 * with;
        }

        long total(int station) {
            return station < 0 || station >= stations.size() ? 0 : stations.get(station).total;
        }

        int slot(int station) {
            return station < 0 || station >= stations.size() ? UNKNOWN : numberOf(stations.get(station).slot);
        }

        int belt(int i) {
            return i < 0 || i >= belt.size() ? NONE : numberOf(belt.get(i));
        }

        int side(int i, int what) {
            if (what < 0 || what > 2) {
                return OUTSIDE;
            }
            return i < 0 || i >= Math.min(20, side.size()) ? NONE : side.get(i)[what];
        }

        int count(int what) {
            if (what < 0 || what > 10) {
                return OUTSIDE;
            }
            int[] sizes = {things.size(), stations.size(), belt.size()};
            return what < 3 ? sizes[what] : counts[what];
        }

        int clear() {
            int before = things.size();
            things.clear();
            stations.clear();
            belt.clear();
            side.clear();
            Arrays.fill(counts, 0);
            return before;
        }
    }

    private static int wrong = 0;

    private static void due(int run, String call, Object got, Object want) {
        if (!got.equals(want)) {
            wrong++;
            if (wrong <= MOST_SHOWN) {
                System.out.println("run " + run + ": " + call + " answered " + got + ", due is " + want);
            }
        }
    }

    public static void main(String[] args) {
        for (int run = 0; run < RUNS; run++) {
            new Run(run).go();
        }
        System.out.println(wrong == 0 ? "all answers are as due" : wrong + " answers are not as due");
        if (wrong != 0) {
            System.exit(1);
        }
    }

    /** One run of calls, from a seed that is the run's number: the same each time. */
    private static final class Run {
        private final int run;
        private final Random random;
        private final SortingLine x = new SortingLine();
        private final Model m = new Model();

        Run(int run) {
            this.run = run;
            this.random = new Random(run);
        }

        void go() {
            int start = random.nextInt(60);
            for (int k = 0; k < start; k++) {
                make();
            }
            for (int k = start; k < CALLS; k++) {
                int dice = random.nextInt(1000);
                if (dice < 2) {
                    due(run, "clear()", x.clear(), m.clear());
                } else if (dice < 60) {
                    make();
                } else if (dice < 500) {
                    change();
                } else if (dice < 800) {
                    move();
                } else {
                    ask();
                }
            }
        }

        /** Mostly from least to most, at times a little or far outside. */
        private int some(int least, int most) {
            int dice = random.nextInt(60);
            if (dice == 0) {
                return least - 1 - random.nextInt(6);
            }
            if (dice == 1) {
                return most + 1 + random.nextInt(3);
            }
            if (dice == 2) {
                return random.nextInt();
            }
            return least + random.nextInt(Math.max(1, most - least + 1));
        }

        private int someThing() {
            return some(0, m.things.size() - 1);
        }

        /** Often a KIND that the THING is of, as else nearly all would be CAST. */
        private int someKind(int thing, int least, int most) {
            for (int tries = 0; tries < 30 && random.nextInt(12) != 0; tries++) {
                int kind = least + random.nextInt(most - least + 1);
                if (m.is(thing, kind) == 1) {
                    return kind;
                }
            }
            return some(least, most);
        }

        private int someRow(int least, int most) {
            for (int tries = 0; tries < 30; tries++) {
                int thing = someThing();
                for (int kind = least; kind <= most; kind++) {
                    if (m.is(thing, kind) == 1) {
                        return thing;
                    }
                }
            }
            return someThing();
        }

        private int someMember(int kind) {
            if (random.nextInt(12) == 0) {
                return NONE;
            }
            for (int tries = 0; tries < 30 && random.nextInt(10) != 0 && kind >= 7 && kind <= 15; tries++) {
                int thing = someThing();
                if (!m.unknown(thing) && KINDS[kind].getComponentType().isInstance(m.things.get(thing))) {
                    return thing;
                }
            }
            return someThing();
        }

        private void make() {
            if (random.nextInt(3) == 0) {
                int form = some(0, 3), weight = some(-1000, 1000);
                due(run, "thing(" + form + ", " + weight + ")", x.thing(form, weight), m.thing(form, weight));
            } else {
                int form = some(4, 15), n = random.nextInt(10) == 0 ? some(0, 8) : random.nextInt(4);
                due(run, "row(" + form + ", " + n + ")", x.row(form, n), m.row(form, n));
            }
        }

        private void change() {
            if (random.nextInt(4) == 0) {
                int thing = someRow(4, 6), kind = someKind(thing, 4, 6), i = some(0, 2);
                long v = random.nextLong() >> random.nextInt(64);
                due(run, "put(" + thing + ", " + kind + ", " + i + ", " + v + ")", x.put(thing, kind, i, v),
                    m.put(thing, kind, i, v));
            } else {
                int thing = someRow(7, 15), kind = someKind(thing, 7, 15), i = some(0, 2), other = someMember(kind);
                due(run, "lay(" + thing + ", " + kind + ", " + i + ", " + other + ")", x.lay(thing, kind, i, other),
                    m.lay(thing, kind, i, other));
            }
        }

        private void move() {
            switch (random.nextInt(12)) {
                case 0:
                    int gate = random.nextBoolean() ? some(0, 17) : 17 - random.nextInt(10), work = some(0, 12);
                    due(run, "station(" + gate + ", " + work + ")", x.station(gate, work), m.station(gate, work));
                    break;
                case 1:
                    int n = some(0, random.nextInt(5) == 0 ? 100 : 5);
                    due(run, "run(" + n + ")", x.run(n), m.run(n));
                    break;
                case 2: case 3: case 4:
                    due(run, "step()", x.step(), m.step());
                    break;
                default:
                    int thing = someThing();
                    due(run, "send(" + thing + ")", x.send(thing), m.send(thing));
            }
        }

        private void ask() {
            int thing = someThing(), station = some(0, 7), i = some(0, 2), far = some(0, 40), what = some(0, 10);
            int kind = someKind(thing, 0, 17), rows = someKind(thing, 7, 15);
            switch (random.nextInt(11)) {
                case 0: due(run, "is(" + thing + ", " + kind + ")", x.is(thing, kind), m.is(thing, kind)); break;
                case 1: due(run, "more(" + thing + ")", x.more(thing), m.more(thing)); break;
                case 2:
                    due(run, "weight(" + thing + ", " + kind + ")", x.weight(thing, kind), m.weight(thing, kind));
                    break;
                case 3:
                    due(run, "length(" + thing + ", " + kind + ")", x.length(thing, kind), m.length(thing, kind));
                    break;
                case 4: askNumber(); break;
                case 5:
                    due(run, "place(" + thing + ", " + rows + ", " + i + ")", x.place(thing, rows, i),
                        m.place(thing, rows, i));
                    break;
                case 6: due(run, "total(" + station + ")", x.total(station), m.total(station)); break;
                case 7: due(run, "slot(" + station + ")", x.slot(station), m.slot(station)); break;
                case 8: due(run, "belt(" + far + ")", x.belt(far), m.belt(far)); break;
                case 9: due(run, "side(" + far / 2 + ", " + i + ")", x.side(far / 2, i), m.side(far / 2, i)); break;
                default: due(run, "count(" + what + ")", x.count(what), m.count(what));
            }
        }

        private void askNumber() {
            int thing = someRow(4, 6), kind = someKind(thing, 4, 6), i = some(0, 2);
            String got;
            String want;
            try {
                got = "" + x.number(thing, kind, i);
            } catch (RuntimeException e) {
                got = e.getClass().getName();
            }
            try {
                want = "" + m.number(thing, kind, i);
            } catch (RuntimeException e) {
                want = e.getClass().getName();
            }
            due(run, "number(" + thing + ", " + kind + ", " + i + ")", got, want);
        }
    }
}
