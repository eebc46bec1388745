/** The boundaries that the document's Terms name: THINGS, KINDS, KEYS, FINDINGS, THE BELT and the STATIONS. */
public final class TermsBoundaryTest extends Checks {
    public static void main(String[] args) {
        aHundredThings();
        refusedOnesTakeNoNumber();
        zeroAtFirst();
        nothingAtFirst();
        kinds();
        nothingIsOfNoKind();
        nothingMayBeTakenForEach();
        keys();
        findingsAsAnswers();
        castOfSomething();
        castByTheForm();
        storeByItsOwnForm();
        fortyOnTheBelt();
        oneMayBeThereOften();
        theBeltGoesRound();
        eightStations();
        gates();
        totalAtFirst();
        totalWraps();
        totalIsALong();
        slotAtFirst();
        fiveHundredAndTwelveCalls();
        finish();
    }

    private static void aHundredThings() {
        about("THINGS, numbered from 0 on as they are made (100 at most)");
        for (int way = 0; way < 3; way++) {
            Line x = new Line();
            for (int k = 0; k < 100; k++) {
                due(x.more(k), UNKNOWN);
                boolean asRow = way == 1 || way == 2 && k % 2 == 1;
                due(asRow ? x.row(4, k % 9) : x.thing(0, k), k);
                due(x.more(k), NONE);
            }
            due(x.thing(0, 0), FULL);
            due(x.row(4, 0), FULL);
            due(x.count(0), 100);
            due(x.more(100), UNKNOWN);
            due(x.more(99), NONE);
            due(x.more(0), NONE);
        }
    }

    private static void refusedOnesTakeNoNumber() {
        about("THINGS, numbered from 0 on as they are made");
        Line x = new Line();
        due(x.thing(4, 0), OUTSIDE);
        due(x.row(4, -1), SIZE);
        due(x.row(4, 9), OUTSIDE);
        due(x.thing(3, 0), 0);
        due(x.thing(0, 1001), OUTSIDE);
        due(x.row(15, 0), 1);
        due(x.row(16, 0), OUTSIDE);
        due(x.row(15, 8), 2);
        due(x.count(0), 3);
    }

    private static void zeroAtFirst() {
        about("rows of numbers, 0 at first");
        for (int n = 0; n <= 8; n++) {
            Line x = oneOfEach(n);
            for (int form = 4; form <= 6; form++) {
                for (int i = 0; i < n; i++) {
                    due(x.number(form, form, i), 0);
                }
            }
        }
        Line x = fullOfLongs();
        x.clear();
        for (int k = 0; k < 30; k++) {
            x.row(6, 8);
        }
        for (int i = 0; i < 8; i++) {
            due(x.number(0, 6, i), 0);
            due(x.number(29, 6, i), 0);
        }
    }

    private static Line fullOfLongs() {
        Line x = new Line();
        for (int k = 0; k < 30; k++) {
            x.row(6, 8);
            for (int i = 0; i < 8; i++) {
                x.put(k, 6, i, -1 - i);
            }
        }
        return x;
    }

    private static void nothingAtFirst() {
        about("Places of 7 to 15 hold NOTHING at first");
        for (int n = 0; n <= 8; n++) {
            Line x = oneOfEach(n);
            for (int form = 7; form <= 15; form++) {
                for (int i = 0; i < n; i++) {
                    due(x.place(form, form, i), NONE);
                }
            }
        }
        Line x = new Line();
        x.thing(0, 1);
        for (int k = 1; k < 100; k++) {
            x.row(8, 8);
        }
        for (int i = 0; i < 8; i++) {
            x.lay(99, 8, i, 0);
        }
        x.clear();
        for (int k = 0; k < 100; k++) {
            x.row(8, 8);
        }
        for (int i = 0; i < 8; i++) {
            due(x.place(99, 8, i), NONE);
        }
    }

    private static void kinds() {
        about("KINDS that a THING IS");
        for (int n : new int[] {0, 8}) {
            Line x = oneOfEach(n);
            for (int form = 0; form <= 15; form++) {
                for (int kind = 0; kind <= 17; kind++) {
                    due(x.is(form, kind), isOf(form, kind) ? 1 : 0);
                }
            }
        }
    }

    private static void nothingIsOfNoKind() {
        about("NOTHING is of no KIND");
        Line x = oneOfEach(1);
        for (int kind = 0; kind <= 17; kind++) {
            due(x.is(NONE, kind), UNKNOWN);
        }
        x.station(17, HOLD);
        due(x.send(NONE), UNKNOWN);
        due(x.step(), NONE);
    }

    private static void nothingMayBeTakenForEach() {
        about("NOTHING .. may be TAKEN for each");
        int[] member = {5, 2, 2, 2, 2, 10, 10, 10, 13};
        for (int kind = 7; kind <= 15; kind++) {
            Line x = oneOfEach(8);
            for (int form = 7; form <= 15; form++) {
                for (int i = 0; i < 8 && isOf(form, kind); i++) {
                    due(x.lay(form, kind, i, member[kind - 7]), 1);
                    due(x.place(form, kind, i), member[kind - 7]);
                    due(x.lay(form, kind, i, NONE), 1);
                    due(x.place(form, kind, i), NONE);
                }
            }
            due(x.count(6) + x.count(9), 0);
        }
    }

    private static void keys() {
        about("A KEY: of a SAFE its WEIGHT times 3 and 1; of a BAG 7 less than its WEIGHT");
        for (int weight : new int[] {-1000, -999, -1, 0, 1, 6, 7, 8, 999, 1000}) {
            dueKey(2, weight, weight * 3 + 1);
            dueKey(3, weight, weight - 7);
        }
    }

    private static void dueKey(int form, int weight, long key) {
        Line x = new Line();
        x.thing(form, weight);
        x.row(11, 1);
        x.lay(1, 11, 0, 0);
        x.station(16, OPEN);
        x.station(11, KEYS);
        due(sendAndStep(x, 0), 0);
        due(x.total(0), key);
        due(sendAndStep(x, 1), 1);
        due(x.total(1), key);
    }

    private static void findingsAsAnswers() {
        about("Calls answer them as -20 less the FINDING");
        Line x = oneOfEach(1);
        due(x.length(0, 4), -20 - 1);
        due(x.place(8, 8, 1), -20 - 3);
        due(x.lay(9, 8, 0, 0), -20 - 4);
        due(x.row(4, -1), -20 - 5);
        x.station(5, WEIGH);
        x.station(8, HEAP);
        x.station(12, CORNER);
        due(sendAndStep(x, 5), -20 - 1);
        due(x.side(0, 2), 1);
        due(sendAndStep(x, 8), -20 - 2);
        due(x.side(0, 2), 2);
        due(sendAndStep(x, x.row(12, 0)), -20 - 3);
        due(x.side(0, 2), 3);
        int[] found = {2, 1, 2, 1, 1};
        for (int finding = 1; finding <= 5; finding++) {
            due(x.count(5 + finding), found[finding - 1]);
        }
    }

    private static void castOfSomething() {
        about("CAST: what is taken for a KIND is something, and not of it");
        for (int kind = 4; kind <= 15; kind++) {
            Line x = oneOfEach(3);
            int casts = 0;
            for (int form = 0; form <= 15; form++) {
                due(x.length(form, kind), isOf(form, kind) ? 3 : CAST);
                casts += isOf(form, kind) ? 0 : 1;
                due(x.count(6), casts);
            }
        }
    }

    private static void castByTheForm() {
        about("CAST goes by what the THING is, not by how it stands in a row");
        Line x = oneOfEach(1);
        x.lay(12, 12, 0, 10);
        due(x.place(12, 12, 0), 10);
        due(x.lay(10, 8, 0, 0), STORE);
        due(x.lay(10, 10, 0, 2), 1);
        due(x.place(x.place(12, 12, 0), 11, 0), 2);
    }

    private static void storeByItsOwnForm() {
        about("STORE: a row refuses what is not of what it is a row of (by its own FORM)");
        for (int form = 7; form <= 15; form++) {
            for (int kind = 7; kind <= 15; kind++) {
                if (isOf(form, kind)) {
                    dueStores(form, kind);
                }
            }
        }
    }

    private static void dueStores(int form, int kind) {
        Line x = oneOfEach(1);
        int stores = 0;
        for (int other = 0; other <= 15; other++) {
            if (!isOf(other, rowOf(kind))) {
                continue;
            }
            boolean fits = isOf(other, rowOf(form));
            int before = x.place(form, form, 0);
            due(x.lay(form, kind, 0, other), fits ? 1 : STORE);
            due(x.place(form, form, 0), fits ? other : before);
            stores += fits ? 0 : 1;
            due(x.count(9), stores);
        }
    }

    private static void fortyOnTheBelt() {
        about("THE BELT has THINGS in a row (40 at most)");
        Line x = oneOfEach(1);
        for (int k = 0; k < 40; k++) {
            due(x.belt(k), NONE);
            due(x.send(k % 16), k + 1);
            due(x.belt(k), k % 16);
        }
        due(x.send(15), FULL);
        due(x.count(2), 40);
        for (int k = 0; k < 40; k++) {
            due(x.belt(k), k % 16);
        }
        due(x.belt(40), NONE);
        due(x.step(), PASSED);
        due(x.send(14), 40);
        due(x.send(14), FULL);
        due(x.belt(0), 1);
        due(x.belt(39), 14);
    }

    private static void oneMayBeThereOften() {
        about("one may be there often");
        Line x = oneOfEach(1);
        x.station(17, WEIGH);
        for (int k = 1; k <= 40; k++) {
            due(x.send(2), k);
        }
        for (int k = 1; k <= 40; k++) {
            due(x.belt(40 - k), 2);
            due(x.belt(41 - k), NONE);
            due(x.step(), 0);
            due(x.total(0), 25 * k);
        }
        due(x.step(), NONE);
    }

    private static void theBeltGoesRound() {
        about("THE BELT has THINGS in a row: the first leaves, the next comes behind");
        for (int onIt : new int[] {1, 2, 39, 40}) {
            Line x = oneOfEach(1);
            int sent = 0;
            for (; sent < onIt; sent++) {
                x.send(sent % 16);
            }
            for (int round = 0; round < 85; round++) {
                due(x.belt(0), round % 16);
                due(x.step(), PASSED);
                due(x.send(sent % 16), onIt);
                due(x.belt(onIt - 1), sent % 16);
                sent++;
            }
            due(x.count(2), onIt);
            due(x.belt(onIt), NONE);
        }
    }

    private static void eightStations() {
        about("STATIONS 0 .. 7, as they come");
        Line x = oneOfEach(1);
        for (int k = 0; k < 8; k++) {
            due(x.slot(k), UNKNOWN);
            due(x.station(k, HOLD), k);
            due(x.slot(k), NONE);
        }
        due(x.station(17, HOLD), FULL);
        due(x.slot(8), UNKNOWN);
        due(x.count(1), 8);
        due(sendAndStep(x, 0), 0);
        due(sendAndStep(x, 7), 7);
        due(x.slot(7), 7);
        due(sendAndStep(x, 8), PASSED);
    }

    private static void gates() {
        about("a GATE (a KIND)");
        for (int gate = 0; gate <= 17; gate++) {
            Line x = oneOfEach(0);
            due(x.station(gate, HOLD), 0);
            for (int form = 0; form <= 15; form++) {
                due(sendAndStep(x, form), isOf(form, gate) ? 0 : PASSED);
            }
        }
    }

    private static void totalAtFirst() {
        about("a TOTAL (a long, 0 at first)");
        Line x = oneOfEach(1);
        for (int k = 0; k < 8; k++) {
            x.station(k, k);
            due(x.total(k), 0);
        }
        sendAndStep(x, 0);
        due(x.total(0), 5);
        due(x.clear(), 16);
        x.station(0, WEIGH);
        due(x.total(0), 0);
    }

    private static void totalWraps() {
        about("a TOTAL (a long; wrapping)");
        Line x = new Line();
        int longs = x.row(6, 2);
        x.station(6, ADD_LONGS);
        dueTotal(x, longs, Long.MAX_VALUE, 0, Long.MAX_VALUE);
        dueTotal(x, longs, 1, 0, Long.MIN_VALUE);
        dueTotal(x, longs, -1, 0, Long.MAX_VALUE);
        dueTotal(x, longs, 1, 1, Long.MIN_VALUE + 1);
        dueTotal(x, longs, -2, 0, Long.MAX_VALUE);
        dueTotal(x, longs, Long.MIN_VALUE, 0, -1);
        dueTotal(x, longs, Long.MIN_VALUE, 0, Long.MAX_VALUE);
        dueTotal(x, longs, Long.MAX_VALUE, Long.MAX_VALUE, Long.MAX_VALUE - 2);
        dueTotal(x, longs, Long.MIN_VALUE, Long.MIN_VALUE, Long.MAX_VALUE - 2);
        due(x.count(3), 9);
        due(x.count(5), 0);
    }

    private static void dueTotal(Line x, int longs, long first, long second, long total) {
        x.put(longs, 6, 0, first);
        x.put(longs, 6, 1, second);
        due(sendAndStep(x, longs), 0);
        due(x.total(0), total);
    }

    private static void totalIsALong() {
        about("a TOTAL (a long): numbers of INTS and of BYTES are added in it without wrapping");
        for (int sign : new int[] {1, -1}) {
            Line x = oneOfEach(8);
            x.station(5, ADD_INTS);
            x.station(4, ADD_BYTES);
            x.station(7, CELL);
            long ofInt = sign > 0 ? MOST : LEAST, ofByte = sign > 0 ? 127 : -128;
            for (int i = 0; i < 8; i++) {
                x.put(5, 5, i, ofInt);
                x.put(4, 4, i, ofByte);
            }
            x.lay(7, 7, 0, 5);
            for (int round = 1; round <= 2; round++) {
                due(sendAndStep(x, 5), 0);
                due(x.total(0), 8 * round * ofInt);
                due(sendAndStep(x, 4), 1);
                due(x.total(1), 8 * round * ofByte);
                due(sendAndStep(x, 7), 2);
                due(x.total(2), round * ofInt);
            }
        }
    }

    private static void slotAtFirst() {
        about("a SLOT (a THING, or NOTHING at first)");
        Line x = oneOfEach(1);
        for (int k = 0; k < 8; k++) {
            x.station(17, HOLD);
            due(x.slot(k), NONE);
        }
        sendAndStep(x, 15);
        due(x.slot(0), 15);
        for (int k = 1; k < 8; k++) {
            due(x.slot(k), NONE);
        }
        x.clear();
        x.station(17, HOLD);
        due(x.slot(0), NONE);
    }

    private static void fiveHundredAndTwelveCalls() {
        about("An object is used for at most 512 calls after it has been made");
        Line x = oneOfEach(8);
        x.station(0, WEIGH);
        x.station(17, OPEN);
        int sent = 0;
        while (x.calls() < 400) {
            due(sendAndStep(x, sent % 2 == 0 ? 1 : 4), sent % 2 == 0 ? 0 : CAST);
            sent++;
        }
        due(x.total(0), 15L * ((sent + 1) / 2));
        due(x.count(5), sent / 2);
        int casts = sent / 2;
        while (x.calls() < 511) {
            due(x.length(0, 4), CAST);
            casts++;
        }
        due(x.count(6), casts);
        due(x.calls(), 512);
    }
}
