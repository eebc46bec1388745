/** A SortingLine that names its latest call for the messages, and is held to the 512 calls that are promised. */
final class Line {
    private static final int MOST_CALLS = 512;

    private static String latestName = "";
    private static long[] latestArguments = {};

    private final SortingLine line = new SortingLine();
    private int calls = 0;

    static String latestCall() {
        StringBuilder text = new StringBuilder(latestName).append('(');
        for (int k = 0; k < latestArguments.length; k++) {
            text.append(k == 0 ? "" : ", ").append(latestArguments[k]);
        }
        return text.append(')').toString();
    }

    int calls() {
        return calls;
    }

    private void called(String name, long... arguments) {
        latestName = name;
        latestArguments = arguments;
        calls++;
        if (calls > MOST_CALLS) {
            throw new IllegalStateException("the test uses one object for more than 512 calls");
        }
    }

    int thing(int form, int weight) {
        called("thing", form, weight);
        return line.thing(form, weight);
    }

    int row(int form, int n) {
        called("row", form, n);
        return line.row(form, n);
    }

    int is(int thing, int kind) {
        called("is", thing, kind);
        return line.is(thing, kind);
    }

    int more(int thing) {
        called("more", thing);
        return line.more(thing);
    }

    int weight(int thing, int kind) {
        called("weight", thing, kind);
        return line.weight(thing, kind);
    }

    int length(int thing, int kind) {
        called("length", thing, kind);
        return line.length(thing, kind);
    }

    int put(int thing, int kind, int i, long v) {
        called("put", thing, kind, i, v);
        return line.put(thing, kind, i, v);
    }

    long number(int thing, int kind, int i) {
        called("number", thing, kind, i);
        return line.number(thing, kind, i);
    }

    /** What number() answers, or the name of what it throws. */
    String numberOrThrown(int thing, int kind, int i) {
        try {
            return Long.toString(number(thing, kind, i));
        } catch (ClassCastException | ArrayIndexOutOfBoundsException e) {
            return e.getClass().getName();
        }
    }

    int lay(int thing, int kind, int i, int other) {
        called("lay", thing, kind, i, other);
        return line.lay(thing, kind, i, other);
    }

    int place(int thing, int kind, int i) {
        called("place", thing, kind, i);
        return line.place(thing, kind, i);
    }

    int station(int gate, int work) {
        called("station", gate, work);
        return line.station(gate, work);
    }

    int send(int thing) {
        called("send", thing);
        return line.send(thing);
    }

    int step() {
        called("step");
        return line.step();
    }

    int run(int n) {
        called("run", n);
        return line.run(n);
    }

    long total(int station) {
        called("total", station);
        return line.total(station);
    }

    int slot(int station) {
        called("slot", station);
        return line.slot(station);
    }

    int belt(int i) {
        called("belt", i);
        return line.belt(i);
    }

    int side(int i, int what) {
        called("side", i, what);
        return line.side(i, what);
    }

    int count(int what) {
        called("count", what);
        return line.count(what);
    }

    int clear() {
        called("clear");
        return line.clear();
    }
}
