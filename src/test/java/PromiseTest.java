/** Each promise of the document: ordinary inputs, the edges that it names, and wrong inputs. */
public final class PromiseTest extends Checks {
    private static final int[] WRONG = {LEAST, -21, -6, -5, -4, -3, -2, -1, 1000, MOST};

    private static void due(String call, long got, long want) {
        if (got != want) {
            tell(call + " answered " + got + ", due is " + want);
        }
    }

    public static void main(String[] args) {
        newObject();
        thing();
        row();
        is();
        more();
        weight();
        length();
        putAndNumber();
        numberThrows();
        lay();
        place();
        station();
        send();
        step();
        stepFindings();
        workWeighAndOpen();
        workAdd();
        workHeapAndKeys();
        workPack();
        workCornerCellDepth();
        workSpill();
        workHold();
        run();
        totalAndSlot();
        belt();
        side();
        count();
        refusalsCountNothing();
        clear();
        finish();
    }

    // Promise 1
    private static void newObject() {
        isAsNew("a new object", new Line());
    }

    private static void isAsNew(String name, Line x) {
        for (int what = 0; what <= 10; what++) {
            due(name + ": count(" + what + ")", x.count(what), 0);
        }
        due(name + ": step()", x.step(), NONE);
        due(name + ": run(100)", x.run(100), 0);
        due(name + ": belt(0)", x.belt(0), NONE);
        due(name + ": more(0)", x.more(0), UNKNOWN);
        due(name + ": slot(0)", x.slot(0), UNKNOWN);
        due(name + ": total(0)", x.total(0), 0);
        for (int what = 0; what < 3; what++) {
            due(name + ": side(0, " + what + ")", x.side(0, what), NONE);
        }
    }

    // Promise 2
    private static void thing() {
        Line x = new Line();
        due("thing(0, -1000)", x.thing(0, -1000), 0);
        due("thing(3, 1000)", x.thing(3, 1000), 1);
        due("its weight", x.weight(0, 0), -1000);
        due("thing(0, -1001)", x.thing(0, -1001), OUTSIDE);
        due("thing(0, 1001)", x.thing(0, 1001), OUTSIDE);
        due("thing(4, 0)", x.thing(4, 0), OUTSIDE);
        for (int bad : WRONG) {
            due("thing(" + bad + ", 0)", x.thing(bad, 0), OUTSIDE);
        }
        due("count(0) after refusals", x.count(0), 2);
        for (int k = 2; k < 100; k++) {
            due("thing " + k, x.thing(k % 4, k), k);
        }
        due("the 101st thing", x.thing(0, 0), FULL);
        due("the 101st thing, with a wrong form", x.thing(4, 0), OUTSIDE);
        due("count(0) when full", x.count(0), 100);
    }

    // Promise 3
    private static void row() {
        Line x = new Line();
        due("row(4, 0)", x.row(4, 0), 0);
        due("row(15, 8)", x.row(15, 8), 1);
        due("length of 0", x.length(0, 4), 0);
        due("length of 1", x.length(1, 15), 8);
        due("row(4, 9)", x.row(4, 9), OUTSIDE);
        due("row(4, MAX)", x.row(4, Integer.MAX_VALUE), OUTSIDE);
        due("row(3, 1)", x.row(3, 1), OUTSIDE);
        due("row(16, 1)", x.row(16, 1), OUTSIDE);
        due("row(16, -1)", x.row(16, -1), OUTSIDE);
        due("row(-1, -1)", x.row(-1, -1), OUTSIDE);
        due("row(4, -1)", x.row(4, -1), SIZE);
        due("row(15, MIN)", x.row(15, Integer.MIN_VALUE), SIZE);
        due("count(10)", x.count(10), 2);
        due("count(0)", x.count(0), 2);
        for (int k = 2; k < 100; k++) {
            x.row(5, 8);
        }
        due("the 101st row", x.row(5, 8), FULL);
        due("the 101st row, of a size below 0", x.row(5, -1), FULL);
        due("the 101st row, of 9", x.row(5, 9), OUTSIDE);
        due("the 101st thing, behind rows", x.thing(0, 0), FULL);
        due("count(10) when full", x.count(10), 2);
        rowAtFirst();
    }

    private static void rowAtFirst() {
        Line x = oneOfEach(8);
        for (int i = 0; i < 8; i++) {
            for (int form = 4; form < 7; form++) {
                due("number of a new row", x.number(form, form, i), 0);
            }
            for (int form = 7; form < 16; form++) {
                due("place of a new row", x.place(form, form, i), NONE);
            }
        }
    }

    // Promise 4
    private static void is() {
        Line x = oneOfEach(1);
        for (int form = 0; form < 16; form++) {
            for (int kind = 0; kind <= 17; kind++) {
                due("is(" + form + ", " + kind + ")", x.is(form, kind), isOf(form, kind) ? 1 : 0);
            }
            due("is(" + form + ", 18)", x.is(form, 18), OUTSIDE);
            due("is(" + form + ", -1)", x.is(form, -1), OUTSIDE);
        }
        due("is(16, 0)", x.is(16, 0), UNKNOWN);
        due("is(16, 18)", x.is(16, 18), UNKNOWN);
        for (int bad : WRONG) {
            due("is(" + bad + ", 0)", x.is(bad, 0), UNKNOWN);
            due("is(0, " + bad + ")", x.is(0, bad), OUTSIDE);
        }
    }

    // Promise 5
    private static void more() {
        Line x = oneOfEach(1);
        int[] want = {NONE, 0, 0, 16, NONE, NONE, NONE, NONE, NONE, 8, 8, NONE, NONE, 12, NONE, NONE};
        for (int form = 0; form < 16; form++) {
            due("more(" + form + ")", x.more(form), want[form]);
        }
        due("more(16)", x.more(16), UNKNOWN);
        for (int bad : WRONG) {
            due("more(" + bad + ")", x.more(bad), UNKNOWN);
        }
    }

    // Promise 6
    private static void weight() {
        Line x = oneOfEach(1);
        int casts = 0;
        for (int form = 0; form < 16; form++) {
            for (int kind = 0; kind < 3; kind++) {
                boolean fits = isOf(form, kind);
                casts += fits ? 0 : 1;
                due("weight(" + form + ", " + kind + ")", x.weight(form, kind), fits ? 5 + 10 * form : -2000000021);
            }
            due("weight(" + form + ", 3)", x.weight(form, 3), -2000000002);
        }
        due("count(6) behind weight", x.count(6), casts);
        due("weight(16, 0)", x.weight(16, 0), -2000000001);
        due("weight(16, 3)", x.weight(16, 3), -2000000001);
        for (int bad : WRONG) {
            due("weight(" + bad + ", 0)", x.weight(bad, 0), -2000000001);
            due("weight(0, " + bad + ")", x.weight(0, bad), -2000000002);
        }
        due("count(6) behind refusals", x.count(6), casts);
    }

    // Promise 7
    private static void length() {
        for (int n = 0; n <= 8; n++) {
            Line x = oneOfEach(n);
            for (int form = 0; form < 16; form++) {
                for (int kind = 4; kind < 16; kind++) {
                    due("length(" + form + ", " + kind + ")", x.length(form, kind), isOf(form, kind) ? n : CAST);
                }
            }
        }
        Line x = oneOfEach(1);
        due("length(4, 3)", x.length(4, 3), OUTSIDE);
        due("length(4, 16)", x.length(4, 16), OUTSIDE);
        due("length(16, 3)", x.length(16, 3), UNKNOWN);
        due("length(4, 5)", x.length(4, 5), CAST);
        due("count(6) behind length", x.count(6), 1);
        for (int bad : WRONG) {
            due("length(" + bad + ", 4)", x.length(bad, 4), UNKNOWN);
            due("length(4, " + bad + ")", x.length(4, bad), OUTSIDE);
        }
    }

    // Promises 8 and 9
    private static void putAndNumber() {
        Line x = oneOfEach(8);
        long[] numbers = {0, 1, -1, 127, 128, -128, -129, 255, 256, 2147483647L, 2147483648L, -2147483649L,
            4294967296L, Long.MAX_VALUE, Long.MIN_VALUE};
        for (long v : numbers) {
            for (int form = 4; form < 7; form++) {
                due("put(" + form + ", 7, " + v + ")", x.put(form, form, 7, v), 1);
            }
            due("byte of " + v, x.number(4, 4, 7), (byte) v);
            due("int of " + v, x.number(5, 5, 7), (int) v);
            due("long of " + v, x.number(6, 6, 7), v);
        }
        due("a place beside", x.number(6, 6, 6), 0);
        putRefused();
    }

    private static void putRefused() {
        Line x = oneOfEach(2);
        for (int form = 0; form < 16; form++) {
            for (int kind = 4; kind < 7; kind++) {
                due("put(" + form + ", " + kind + ", 0, 9)", x.put(form, kind, 0, 9), form == kind ? 1 : CAST);
                due("put(" + form + ", " + kind + ", 2, 9)", x.put(form, kind, 2, 9), form == kind ? BEYOND : CAST);
                due("put(" + form + ", " + kind + ", -1, 9)", x.put(form, kind, -1, 9), form == kind ? BEYOND : CAST);
            }
        }
        due("count(6) behind put", x.count(6), 45 * 3);
        due("count(8) behind put", x.count(8), 6);
        due("put(5, 3, 0, 1)", x.put(5, 3, 0, 1), OUTSIDE);
        due("put(7, 7, 0, 1)", x.put(7, 7, 0, 1), OUTSIDE);
        due("put(16, 3, 0, 1)", x.put(16, 3, 0, 1), UNKNOWN);
        due("put(-1, 5, 0, 1)", x.put(-1, 5, 0, 1), UNKNOWN);
        for (int bad : WRONG) {
            due("put(5, 5, " + bad + ", 1)", x.put(5, 5, bad, 1), BEYOND);
        }
        due("what a refused put leaves", x.number(5, 5, 1), 0);
    }

    private static void dueText(String call, String got, String want) {
        if (!got.equals(want)) {
            tell(call + " answered " + got + ", due is " + want);
        }
    }

    private static void numberThrows() {
        Line x = oneOfEach(2);
        String cast = "java.lang.ClassCastException";
        String beyond = "java.lang.ArrayIndexOutOfBoundsException";
        for (int form = 0; form < 16; form++) {
            for (int kind = 4; kind < 7; kind++) {
                String call = "number(" + form + ", " + kind + ", ";
                dueText(call + "0)", x.numberOrThrown(form, kind, 0), form == kind ? "0" : cast);
                dueText(call + "2)", x.numberOrThrown(form, kind, 2), form == kind ? beyond : cast);
                dueText(call + "-1)", x.numberOrThrown(form, kind, -1), form == kind ? beyond : cast);
            }
        }
        dueText("number(5, 3, 0)", x.numberOrThrown(5, 3, 0), "0");
        dueText("number(5, 7, 0)", x.numberOrThrown(5, 7, 0), "0");
        dueText("number(16, 5, 0)", x.numberOrThrown(16, 5, 0), "0");
        dueText("number(16, 7, 9)", x.numberOrThrown(16, 7, 9), "0");
        for (int bad : WRONG) {
            dueText("number(" + bad + ", 5, 0)", x.numberOrThrown(bad, 5, 0), "0");
            dueText("number(5, " + bad + ", 0)", x.numberOrThrown(5, bad, 0), "0");
            dueText("number(5, 5, " + bad + ")", x.numberOrThrown(5, 5, bad), beyond);
        }
        for (int what = 6; what <= 10; what++) {
            due("count(" + what + ") behind number", x.count(what), 0);
        }
    }

    private static int dueOfLay(int form, int kind, int i, int other) {
        if (!isOf(form, kind) || !isOf(other, rowOf(kind))) {
            return CAST;
        }
        if (i < 0 || i >= 3) {
            return BEYOND;
        }
        return isOf(other, rowOf(form)) ? 1 : STORE;
    }

    // Promise 10
    private static void lay() {
        for (int kind = 7; kind < 16; kind++) {
            for (int form = 0; form < 16; form++) {
                layEach(oneOfEach(3), form, kind);
            }
        }
        layCounts();
        layRefused();
    }

    private static void layEach(Line x, int form, int kind) {
        for (int other = 0; other < 16; other++) {
            String call = "lay(" + form + ", " + kind + ", 2, " + other + ")";
            int before = isOf(form, kind) ? x.place(form, kind, 2) : NONE;
            int want = dueOfLay(form, kind, 2, other);
            due(call, x.lay(form, kind, 2, other), want);
            if (isOf(form, kind)) {
                due(call + ", its place", x.place(form, form, 2), want == 1 ? other : before);
            }
        }
        for (int i : new int[] {-1, 3, Integer.MAX_VALUE, Integer.MIN_VALUE}) {
            int other = kind == 7 ? 5 : kind < 12 ? 2 : kind < 15 ? 10 : 13;
            due("lay at " + i, x.lay(form, kind, i, other), dueOfLay(form, kind, i, other));
            due("lay NOTHING at " + i, x.lay(form, kind, i, NONE), isOf(form, kind) ? BEYOND : CAST);
        }
        due("lay NOTHING", x.lay(form, kind, 2, NONE), isOf(form, kind) ? 1 : CAST);
        if (isOf(form, kind)) {
            due("the place of NOTHING", x.place(form, kind, 2), NONE);
        }
    }

    private static void layCounts() {
        Line x = oneOfEach(2);
        due("CAST of both is one", x.lay(0, 8, 9, 3), CAST);
        due("CAST of the other ahead of BEYOND", x.lay(8, 8, 9, 3), CAST);
        due("BEYOND ahead of STORE", x.lay(9, 8, 2, 0), BEYOND);
        due("STORE", x.lay(9, 8, 1, 0), STORE);
        due("STORE by the FORM, not the KIND", x.lay(10, 11, 1, 3), STORE);
        due("STORE of a row", x.lay(13, 12, 1, 8), STORE);
        due("count(6) behind lay", x.count(6), 2);
        due("count(8) behind lay", x.count(8), 1);
        due("count(9) behind lay", x.count(9), 3);
        due("count(5) behind lay", x.count(5), 0);
        due("no SIDE behind lay", x.side(0, 0), NONE);
    }

    private static void layRefused() {
        Line x = oneOfEach(2);
        due("lay(16, 8, 0, 0)", x.lay(16, 8, 0, 0), UNKNOWN);
        due("lay(8, 8, 0, 16)", x.lay(8, 8, 0, 16), UNKNOWN);
        due("lay(8, 6, 0, 16)", x.lay(8, 6, 0, 16), UNKNOWN);
        due("lay(NONE, 8, 0, NONE)", x.lay(NONE, 8, 0, NONE), UNKNOWN);
        due("lay(8, 6, 0, 0)", x.lay(8, 6, 0, 0), OUTSIDE);
        due("lay(8, 16, 0, 0)", x.lay(8, 16, 0, 0), OUTSIDE);
        for (int bad : WRONG) {
            due("lay(" + bad + ", 8, 0, 0)", x.lay(bad, 8, 0, 0), UNKNOWN);
            due("lay(8, " + bad + ", 0, 0)", x.lay(8, bad, 0, 0), OUTSIDE);
            due("lay(8, 8, 0, " + bad + ")", x.lay(8, 8, 0, bad), bad == NONE ? 1 : UNKNOWN);
        }
        due("count(6) behind refusals", x.count(6), 0);
    }

    // Promise 11
    private static void place() {
        Line x = oneOfEach(2);
        x.lay(10, 10, 1, 2);
        int findings = 0;
        for (int form = 0; form < 16; form++) {
            for (int kind = 7; kind < 16; kind++) {
                int want = isOf(form, kind) ? form == 10 ? 2 : NONE : CAST;
                findings += want == CAST ? 1 : 0;
                due("place(" + form + ", " + kind + ", 1)", x.place(form, kind, 1), want);
            }
        }
        due("count(6) behind place", x.count(6), findings);
        due("place(10, 10, 0)", x.place(10, 10, 0), NONE);
        due("place(10, 10, 2)", x.place(10, 10, 2), BEYOND);
        due("place(10, 10, -1)", x.place(10, 10, -1), BEYOND);
        due("place(10, 12, 2)", x.place(10, 12, 2), CAST);
        due("count(8) behind place", x.count(8), 2);
        due("place(10, 6, 0)", x.place(10, 6, 0), OUTSIDE);
        due("place(10, 16, 0)", x.place(10, 16, 0), OUTSIDE);
        due("place(16, 16, 0)", x.place(16, 16, 0), UNKNOWN);
        for (int bad : WRONG) {
            due("place(" + bad + ", 8, 0)", x.place(bad, 8, 0), UNKNOWN);
            due("place(8, " + bad + ", 0)", x.place(8, bad, 0), OUTSIDE);
        }
    }

    // Promise 12
    private static void station() {
        Line x = new Line();
        for (int bad : WRONG) {
            due("station(" + bad + ", 0)", x.station(bad, 0), OUTSIDE);
            due("station(0, " + bad + ")", x.station(0, bad), OUTSIDE);
        }
        due("station(18, 0)", x.station(18, 0), OUTSIDE);
        due("station(0, 13)", x.station(0, 13), OUTSIDE);
        due("station(17, 12)", x.station(17, 12), 0);
        for (int k = 1; k < 8; k++) {
            due("station " + k, x.station(0, 0), k);
        }
        due("the ninth station", x.station(0, 0), FULL);
        due("the ninth station, with a wrong gate", x.station(18, 0), OUTSIDE);
        due("count(1)", x.count(1), 8);
    }

    // Promise 13
    private static void send() {
        Line x = oneOfEach(1);
        due("send(16)", x.send(16), UNKNOWN);
        for (int bad : WRONG) {
            due("send(" + bad + ")", x.send(bad), UNKNOWN);
        }
        for (int k = 1; k <= 40; k++) {
            due("send " + k, x.send(3), k);
        }
        due("the 41st", x.send(3), FULL);
        due("the 41st, unknown", x.send(16), UNKNOWN);
        due("count(2)", x.count(2), 40);
        x.step();
        due("room again", x.send(4), 40);
        due("it is the last", x.belt(39), 4);
    }

    // Promise 14
    private static void step() {
        Line x = oneOfEach(1);
        due("an empty belt", x.step(), NONE);
        due("no station", sendAndStep(x, 0), PASSED);
        x.station(2, 12);
        x.station(0, 12);
        x.station(1, 12);
        x.station(16, 12);
        due("a parcel", sendAndStep(x, 0), 1);
        due("a crate: the first that fits, not the nearest", sendAndStep(x, 1), 1);
        due("a safe", sendAndStep(x, 2), 0);
        due("a bag", sendAndStep(x, 3), 3);
        due("bytes", sendAndStep(x, 4), PASSED);
        due("count(2)", x.count(2), 0);
        due("count(3)", x.count(3), 4);
        due("count(4)", x.count(4), 2);
        due("count(5)", x.count(5), 0);
        eachGate();
    }

    private static void eachGate() {
        for (int gate = 0; gate <= 17; gate++) {
            Line x = oneOfEach(1);
            x.station(gate, 12);
            for (int form = 0; form < 16; form++) {
                due("gate " + gate + ", form " + form, sendAndStep(x, form), isOf(form, gate) ? 0 : PASSED);
            }
        }
    }

    private static void stepFindings() {
        for (int work = 0; work <= 12; work++) {
            Line x = oneOfEach(0);
            x.station(17, work);
            for (int form = 0; form < 16; form++) {
                boolean wantsPlace = work == 6 || work == 7 || work == 8 || work == 9;
                int want = !isOf(form, TAKEN_FOR[work]) ? CAST : wantsPlace ? BEYOND : 0;
                due("work " + work + ", form " + form + " without places", sendAndStep(x, form), want);
                if (want != 0) {
                    due("at the side", x.side(0, 0), form);
                    due("its station", x.side(0, 1), 0);
                    due("its finding", x.side(0, 2), -20 - want);
                }
            }
            due("no more on the belt", x.count(2), 0);
            due("count(3) and count(5)", x.count(3) + x.count(5), 16);
            due("count(6) and count(8)", x.count(6) + x.count(8), x.count(5));
        }
    }

    private static void workWeighAndOpen() {
        Line x = oneOfEach(1);
        x.station(3, 0);
        x.station(0, 0);
        x.station(17, 1);
        due("a bag to be weighed", sendAndStep(x, 3), CAST);
        due("slot stays", x.slot(0), NONE);
        due("weigh a parcel", sendAndStep(x, 0), 1);
        due("weigh a safe", sendAndStep(x, 2), 1);
        due("total", x.total(1), 30);
        due("slot", x.slot(1), 2);
        due("open bytes", sendAndStep(x, 4), CAST);
        Line y = oneOfEach(1);
        y.station(17, 1);
        due("open a safe", sendAndStep(y, 2), 0);
        due("its key", y.total(0), 76);
        due("open a bag", sendAndStep(y, 3), 0);
        due("its key too", y.total(0), 104);
        due("open a crate", sendAndStep(y, 1), CAST);
        due("the total stays", y.total(0), 104);
        due("the slot stays", y.slot(0), NONE);
        int light = y.thing(2, -1000);
        sendAndStep(y, light);
        due("a key below 0", y.total(0), 104 - 2999);
    }

    private static void workAdd() {
        Line x = oneOfEach(3);
        x.station(5, 2);
        x.station(6, 3);
        x.station(4, 4);
        for (int form = 4; form < 7; form++) {
            x.put(form, form, 0, Long.MAX_VALUE);
            x.put(form, form, 1, 5);
            x.put(form, form, 2, 100);
        }
        for (int form = 4; form < 7; form++) {
            x.send(form);
            x.send(form);
        }
        due("add all", x.run(6), 6);
        due("ints", x.total(0), 2 * 104);
        due("longs wrap", x.total(1), 2 * (Long.MAX_VALUE + 105));
        due("bytes", x.total(2), 2 * 104);
        x.put(5, 5, 0, Integer.MAX_VALUE);
        x.put(5, 5, 1, Integer.MAX_VALUE);
        sendAndStep(x, 5);
        due("ints do not wrap in the total", x.total(0), 208 + 2L * Integer.MAX_VALUE + 100);
        x.put(6, 6, 0, Long.MAX_VALUE);
        x.put(6, 6, 1, 0);
        x.put(6, 6, 2, 0);
        long before = x.total(1);
        sendAndStep(x, 6);
        due("a total wraps", x.total(1), before + Long.MAX_VALUE);
    }

    private static void workHeapAndKeys() {
        Line x = oneOfEach(2);
        x.station(8, 5);
        x.station(17, 10);
        x.lay(8, 8, 0, 0);
        due("heap with a hole", sendAndStep(x, 8), NOTHING);
        due("total stays", x.total(0), 0);
        x.lay(8, 8, 1, 2);
        due("heap", sendAndStep(x, 8), 0);
        due("heap's total", x.total(0), 30);
        x.lay(9, 9, 0, 1);
        x.lay(9, 9, 1, 1);
        due("heap of crates", sendAndStep(x, 9), 0);
        due("heap's total grows", x.total(0), 60);
        x.lay(11, 11, 1, 3);
        due("keys with a hole", sendAndStep(x, 11), NOTHING);
        due("keys' total stays", x.total(1), 0);
        x.lay(11, 11, 0, 2);
        due("keys", sendAndStep(x, 11), 1);
        due("keys' total", x.total(1), 76 + 28);
        due("keys of numbers", sendAndStep(x, 5), CAST);
        Line y = oneOfEach(2);
        y.station(11, 10);
        y.lay(10, 10, 0, 2);
        y.lay(10, 8, 1, 2);
        due("keys of safes", sendAndStep(y, 10), 0);
        due("their total", y.total(0), 152);
    }

    // The SLOT of a STATION that packs can not but hold NOTHING: only WEIGH and HOLD fill one, and each its own.
    private static void workPack() {
        Line x = oneOfEach(2);
        x.station(0, 0);
        x.station(17, 6);
        sendAndStep(x, 0);
        x.lay(9, 9, 0, 1);
        x.lay(9, 9, 1, 2);
        due("pack", sendAndStep(x, 9), 1);
        due("its place 0", x.place(9, 9, 0), NONE);
        due("its place 1", x.place(9, 9, 1), 2);
        due("slot of the packer", x.slot(1), NONE);
        due("slot of the other", x.slot(0), 0);
        due("pack locked ones", sendAndStep(x, 11), CAST);
        int empty = x.row(8, 0);
        due("pack a row without places", sendAndStep(x, empty), BEYOND);
    }

    private static void workCornerCellDepth() {
        Line x = oneOfEach(2);
        x.station(12, 7);
        x.station(7, 8);
        x.station(15, 9);
        int noRow = x.row(8, 0), noPile = x.row(12, 0), noInts = x.row(5, 0);
        corner(x, noRow, noPile);
        due("cell of nothing", sendAndStep(x, 7), NOTHING);
        x.lay(7, 7, 0, noInts);
        due("cell beyond", sendAndStep(x, 7), BEYOND);
        x.lay(7, 7, 0, 5);
        x.put(5, 5, 0, -12);
        x.put(5, 5, 1, 1000);
        due("cell", sendAndStep(x, 7), 1);
        due("cell's total", x.total(1), -12);
        due("depth of nothing", sendAndStep(x, 15), NOTHING);
        x.lay(15, 15, 0, noPile);
        due("depth beyond in the pile", sendAndStep(x, 15), BEYOND);
        x.lay(15, 15, 0, 13);
        due("depth of nothing in the pile", sendAndStep(x, 15), NOTHING);
        x.lay(13, 13, 0, 10);
        due("depth of nothing in the row", sendAndStep(x, 15), NOTHING);
        x.lay(10, 10, 0, 2);
        due("depth", sendAndStep(x, 15), 2);
        due("depth's total", x.total(2), 25);
        x.lay(15, 15, 0, 12);
        x.lay(12, 12, 0, noRow);
        due("depth beyond in the row", sendAndStep(x, 15), BEYOND);
        due("depth's total stays", x.total(2), 25);
        onePlaceIsEnough();
    }

    private static void onePlaceIsEnough() {
        Line x = oneOfEach(1);
        x.station(12, 7);
        x.station(7, 8);
        x.station(15, 9);
        x.lay(8, 8, 0, 0);
        x.lay(12, 12, 0, 8);
        x.lay(15, 15, 0, 12);
        x.lay(7, 7, 0, 5);
        due("corner of one place", sendAndStep(x, 12), 0);
        due("cell of one place", sendAndStep(x, 7), 1);
        due("depth of one place", sendAndStep(x, 15), 2);
    }

    private static void corner(Line x, int noRow, int noPile) {
        due("corner of nothing", sendAndStep(x, 12), NOTHING);
        due("corner beyond", sendAndStep(x, noPile), BEYOND);
        x.lay(12, 12, 0, noRow);
        due("corner beyond in the row", sendAndStep(x, 12), BEYOND);
        x.lay(12, 12, 0, 8);
        x.lay(8, 8, 1, 0);
        due("corner of nothing in the row", sendAndStep(x, 12), NOTHING);
        due("corner's total stays", x.total(0), 0);
        x.lay(8, 8, 0, 1);
        due("corner", sendAndStep(x, 12), 0);
        due("corner's total", x.total(0), 15);
        x.lay(12, 12, 0, NONE);
    }

    private static void workSpill() {
        Line x = oneOfEach(4);
        x.station(8, 11);
        x.lay(8, 8, 0, 2);
        x.lay(8, 8, 2, 0);
        x.lay(8, 8, 3, 2);
        x.send(8);
        x.send(7);
        due("spill", x.step(), 0);
        int[] belt = {7, 2, 0, 2, NONE};
        for (int i = 0; i < belt.length; i++) {
            due("belt behind spill, " + i, x.belt(i), belt[i]);
        }
        for (int i = 0; i < 4; i++) {
            due("the row behind spill, " + i, x.place(8, 8, i), NONE);
        }
        due("spill of nothing", sendAndStep(oneWithSpill(), 0), 0);
        spillWithoutRoom();
    }

    private static Line oneWithSpill() {
        Line x = new Line();
        x.row(10, 8);
        x.station(10, 11);
        return x;
    }

    private static void spillWithoutRoom() {
        Line x = oneOfEach(4);
        x.station(8, 11);
        x.lay(9, 9, 1, 1);
        x.lay(9, 9, 2, 2);
        x.lay(9, 9, 3, 1);
        x.send(9);
        for (int k = 1; k < 39; k++) {
            x.send(7);
        }
        due("spill with room for two", x.step(), 0);
        due("a full belt", x.count(2), 40);
        due("the last but one", x.belt(38), 1);
        due("the last", x.belt(39), 2);
        due("gone", x.place(9, 9, 1), NONE);
        due("gone too", x.place(9, 9, 2), NONE);
        due("stays", x.place(9, 9, 3), 1);
        due("count(3)", x.count(3), 1);
    }

    private static void workHold() {
        Line x = oneOfEach(1);
        x.station(17, 12);
        for (int form = 0; form < 16; form++) {
            due("hold", sendAndStep(x, form), 0);
            due("held", x.slot(0), form);
        }
        due("hold's total", x.total(0), 0);
    }

    // Promise 15
    private static void run() {
        Line x = oneOfEach(1);
        x.station(0, 0);
        x.station(16, 0);
        for (int bad : new int[] {-1, 101, Integer.MIN_VALUE, Integer.MAX_VALUE}) {
            due("run(" + bad + ")", x.run(bad), OUTSIDE);
        }
        for (int thing : new int[] {0, 3, 3, 4, 1, 3}) {
            x.send(thing);
        }
        due("run(0)", x.run(0), 0);
        due("nothing has moved", x.count(2), 6);
        due("run(2)", x.run(2), 1001);
        due("four are left", x.count(2), 4);
        due("run(100): passed ones are without finding", x.run(100), 2002);
        due("run(100) of none", x.run(100), 0);
        due("count(3)", x.count(3), 2);
        due("count(4)", x.count(4), 1);
        due("count(5)", x.count(5), 3);
        runOverSpills();
    }

    private static void runOverSpills() {
        Line x = oneOfEach(8);
        x.station(8, 11);
        x.station(0, 0);
        for (int i = 0; i < 8; i++) {
            x.lay(8, 8, i, 0);
        }
        x.send(8);
        due("what is spilled is run too", x.run(100), 9);
        due("its total", x.total(1), 40);
        for (int k = 0; k < 40; k++) {
            x.send(1);
        }
        due("a full belt", x.run(100), 40);
    }

    // Promises 16 and 17
    private static void totalAndSlot() {
        Line x = oneOfEach(1);
        x.station(0, 0);
        sendAndStep(x, 1);
        due("total(0)", x.total(0), 15);
        due("slot(0)", x.slot(0), 1);
        x.station(0, 0);
        due("total(1)", x.total(1), 0);
        due("slot(1)", x.slot(1), NONE);
        due("total(2)", x.total(2), 0);
        due("slot(2)", x.slot(2), UNKNOWN);
        for (int bad : WRONG) {
            due("total(" + bad + ")", x.total(bad), 0);
            due("slot(" + bad + ")", x.slot(bad), UNKNOWN);
        }
        due("slot(8)", x.slot(8), UNKNOWN);
    }

    // Promise 18
    private static void belt() {
        Line x = oneOfEach(1);
        for (int round = 0; round < 7; round++) {
            for (int thing = 0; thing < 15; thing++) {
                x.send(thing);
            }
            for (int i = 0; i < 15; i++) {
                due("belt(" + i + ")", x.belt(i), i);
            }
            x.step();
            due("belt(0) behind a step", x.belt(0), 1);
            due("belt(14) behind a step", x.belt(14), NONE);
            x.run(100);
        }
        for (int bad : WRONG) {
            due("belt(" + bad + ")", x.belt(bad), NONE);
        }
        for (int k = 0; k < 40; k++) {
            x.send(k % 16);
        }
        due("belt(39)", x.belt(39), 7);
        due("belt(40)", x.belt(40), NONE);
        due("belt(-1)", x.belt(-1), NONE);
    }

    // Promise 19
    private static void side() {
        Line x = new Line();
        x.station(4, 0);
        x.station(17, 10);
        int bytes = x.row(4, 0);
        int keys = x.row(11, 1);
        due("side of none", x.side(0, 0), NONE);
        for (int k = 1; k <= 50; k++) {
            sendAndStep(x, k % 3 == 0 ? keys : bytes);
            boolean isKeys = k % 3 == 0;
            due("side(0, 0) of " + k, x.side(0, 0), isKeys ? keys : bytes);
            due("side(0, 1) of " + k, x.side(0, 1), isKeys ? 1 : 0);
            due("side(0, 2) of " + k, x.side(0, 2), isKeys ? 2 : 1);
        }
        for (int i = 0; i <= 20; i++) {
            boolean told = i < 20;
            boolean isKeys = (50 - i) % 3 == 0;
            due("side(" + i + ", 0)", x.side(i, 0), told ? isKeys ? keys : bytes : NONE);
            due("side(" + i + ", 1)", x.side(i, 1), told ? isKeys ? 1 : 0 : NONE);
            due("side(" + i + ", 2)", x.side(i, 2), told ? isKeys ? 2 : 1 : NONE);
        }
        for (int bad : WRONG) {
            due("side(0, " + bad + ")", x.side(0, bad), OUTSIDE);
            due("side(" + bad + ", 0)", x.side(bad, 0), NONE);
        }
        due("side(0, 3)", x.side(0, 3), OUTSIDE);
        due("side(20, 3)", x.side(20, 3), OUTSIDE);
    }

    // Promise 20
    private static void count() {
        Line x = oneOfEach(1);
        x.station(0, 0);
        x.station(8, 5);
        x.station(3, 0);
        for (int thing : new int[] {0, 1, 2, 4, 4, 8, 3, 3, 3, 3, 5, 6}) {
            x.send(thing);
        }
        x.run(10);
        x.put(5, 5, 1, 1);
        x.lay(9, 8, 0, 0);
        x.lay(9, 8, 0, 0);
        x.row(5, -1);
        x.weight(3, 0);
        int[] want = {16, 3, 2, 3, 2, 5, 5, 1, 1, 2, 1, OUTSIDE};
        for (int what = 0; what < want.length; what++) {
            due("count(" + what + ")", x.count(what), want[what]);
        }
        for (int bad : WRONG) {
            due("count(" + bad + ")", x.count(bad), OUTSIDE);
        }
    }

    /** Refused calls change nothing, and are no FINDINGS. */
    private static void refusalsCountNothing() {
        Line x = oneOfEach(1);
        x.station(17, 12);
        x.thing(4, 0);
        x.row(5, 9);
        x.is(0, 18);
        x.more(16);
        x.weight(16, 0);
        x.length(0, 3);
        x.put(5, 7, 0, 1);
        x.number(16, 5, 0);
        x.lay(8, 6, 0, 0);
        x.place(8, 6, 0);
        x.station(18, 0);
        x.send(16);
        x.run(101);
        x.slot(1);
        x.side(0, 3);
        x.count(11);
        int[] want = {16, 1, 0, 0, 0, 0, 0, 0, 0, 0, 0};
        for (int what = 0; what < want.length; what++) {
            due("count(" + what + ") behind refusals", x.count(what), want[what]);
        }
    }

    // Promise 21
    private static void clear() {
        Line x = new Line();
        due("clear() of nothing", x.clear(), 0);
        isAsNew("cleared when new", x);
        for (int round = 0; round < 3; round++) {
            fill(x);
            due("clear()", x.clear(), 100);
            isAsNew("cleared", x);
            due("clear() again", x.clear(), 0);
        }
        x.station(17, 12);
        due("a station's total", x.total(0), 0);
        due("a station's slot", x.slot(0), NONE);
        due("a row of parcels, where one was", x.row(8, 8), 0);
        due("a row of longs, where one was", x.row(6, 8), 1);
        for (int i = 0; i < 8; i++) {
            due("its place", x.place(0, 8, i), NONE);
            due("its number", x.number(1, 6, i), 0);
        }
    }

    private static void fill(Line x) {
        x.row(8, -1);
        x.row(8, 8);
        x.row(6, 8);
        x.thing(1, 7);
        x.thing(3, 7);
        for (int k = 4; k < 100; k++) {
            x.thing(0, k);
        }
        for (int i = 0; i < 8; i++) {
            x.put(1, 6, i, -1);
            x.lay(0, 8, i, 2);
        }
        x.station(0, 0);
        x.station(3, 0);
        x.send(3);
        x.send(2);
        x.send(1);
        x.run(3);
        x.send(0);
        x.row(5, 9);
        x.place(0, 8, 8);
        x.lay(0, 9, 0, 2);
        due("count(3) of a full one", x.count(3), 1);
        due("count(4) of a full one", x.count(4), 1);
        due("count(5) of a full one", x.count(5), 1);
    }
}
