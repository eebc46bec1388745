/** The boundaries that the document names for a STEP, for each WORK, and for THE SIDE. */
public final class WorksBoundaryTest extends Checks {
    public static void main(String[] args) {
        theFirstThingLeaves();
        theFirstStationThatFits();
        theLastStationOfEight();
        passed();
        noSecondStation();
        takenFirstOfAll();
        weigh();
        open();
        add();
        addOfNoPlaces();
        heap();
        heapWithAHole();
        pack();
        packOfNoPlaces();
        corner();
        cornerStepByStep();
        cornerStands();
        cell();
        cellStepByStep();
        depth();
        depthStepByStep();
        keys();
        keysWithAHole();
        spillInOrder();
        spillAsFarAsThereIsRoom();
        spillWhereTheBeltGoesRound();
        spillOfNothing();
        hold();
        findingsDoNothingElse();
        findingsLeaveTotalAndSlot();
        theLatestTwentyAreTold();
        oneMayBeAtTheSideOften();
        finish();
    }

    private static void theFirstThingLeaves() {
        about("A STEP: the first THING of THE BELT leaves it");
        Line x = oneOfEach(1);
        x.station(0, WEIGH);
        x.station(3, WEIGH);
        int[] sent = {0, 3, 4, 1};
        int[] answers = {0, CAST, PASSED, 0};
        for (int thing : sent) {
            x.send(thing);
        }
        for (int k = 0; k < sent.length; k++) {
            due(x.belt(0), sent[k]);
            due(x.step(), answers[k]);
            due(x.count(2), sent.length - 1 - k);
        }
        due(x.belt(0), NONE);
        due(x.step(), NONE);
        due(x.count(2), 0);
    }

    private static void theFirstStationThatFits() {
        about("it comes to the first STATION whose GATE it IS of");
        for (int first = 0; first <= 17; first++) {
            for (int second = 0; second <= 17; second++) {
                Line x = oneOfEach(0);
                x.station(first, HOLD);
                x.station(second, HOLD);
                for (int form = 0; form <= 15; form++) {
                    due(sendAndStep(x, form), isOf(form, first) ? 0 : isOf(form, second) ? 1 : PASSED);
                }
            }
        }
    }

    private static void theLastStationOfEight() {
        about("it comes to the first STATION whose GATE it IS of; there are 8 at most");
        for (int fitting = 0; fitting < 8; fitting++) {
            Line x = oneOfEach(1);
            for (int k = 0; k < 8; k++) {
                x.station(k >= fitting ? 17 : 15, HOLD);
            }
            due(sendAndStep(x, 0), fitting);
            for (int k = 0; k < 8; k++) {
                due(x.slot(k), k == fitting ? 0 : NONE);
            }
        }
    }

    private static void passed() {
        about("without such it is PASSED");
        Line x = oneOfEach(1);
        due(sendAndStep(x, 0), PASSED);
        x.station(1, WEIGH);
        due(sendAndStep(x, 0), PASSED);
        due(x.total(0), 0);
        due(x.slot(0), NONE);
        due(x.side(0, 0), NONE);
        due(x.belt(0), NONE);
        int[] counts = {16, 1, 0, 0, 2, 0, 0, 0, 0, 0, 0};
        for (int what = 0; what < counts.length; what++) {
            due(x.count(what), counts[what]);
        }
    }

    private static void noSecondStation() {
        about("The WORK of that is done with it");
        Line x = oneOfEach(1);
        x.station(17, OPEN);
        x.station(0, WEIGH);
        x.station(17, HOLD);
        due(sendAndStep(x, 0), CAST);
        due(x.side(0, 1), 0);
        due(x.total(1), 0);
        due(x.slot(2), NONE);
        due(sendAndStep(x, 2), 0);
        due(x.total(0), 76);
        due(x.total(1), 0);
        due(x.slot(2), NONE);
    }

    private static void takenFirstOfAll() {
        about("each TAKES it for the KIND named, first of all");
        for (int n : new int[] {0, 1, 8}) {
            for (int work = 0; work <= 12; work++) {
                Line x = oneOfEach(n);
                x.station(17, work);
                for (int form = 0; form <= 15; form++) {
                    int due = isOf(form, TAKEN_FOR[work]) ? whenTaken(work, n) : CAST;
                    due(sendAndStep(x, form), due);
                    if (due != 0) {
                        due(x.side(0, 0), form);
                        due(x.side(0, 2), -20 - due);
                    }
                }
            }
        }
    }

    /** What comes of a row of n places that are as at first, and of a single one. */
    private static int whenTaken(int work, int n) {
        boolean wantsAPlace = work == PACK || work == CORNER || work == CELL || work == DEPTH;
        if (n == 0) {
            return wantsAPlace ? BEYOND : 0;
        }
        boolean wantsSomething = wantsAPlace && work != PACK || work == HEAP || work == KEYS;
        return wantsSomething ? NOTHING : 0;
    }

    private static void weigh() {
        about("WEIGH (0, a PARCEL): TOTAL grows by its WEIGHT; it comes into the SLOT");
        int[] weights = {-1000, 1000, 1000, 0, -1, 1};
        for (int form = 0; form <= 2; form++) {
            Line x = new Line();
            x.station(17, WEIGH);
            long total = 0;
            for (int k = 0; k < weights.length; k++) {
                x.thing(form, weights[k]);
                total += weights[k];
                due(sendAndStep(x, k), 0);
                due(x.total(0), total);
                due(x.slot(0), k);
            }
        }
    }

    private static void open() {
        about("OPEN (16): TOTAL grows by its KEY");
        Line x = oneOfEach(1);
        x.station(17, OPEN);
        due(sendAndStep(x, 2), 0);
        due(x.total(0), 76);
        due(sendAndStep(x, 3), 0);
        due(x.total(0), 76 + 28);
        due(x.slot(0), NONE);
        due(sendAndStep(x, 1), CAST);
        due(sendAndStep(x, 11), CAST);
        due(x.total(0), 76 + 28);
    }

    private static void add() {
        about("2 ADD (5), 3 ADD (6), 4 ADD (4): TOTAL grows by all its numbers");
        int[] formOf = {5, 6, 4};
        for (int work = ADD_INTS; work <= ADD_BYTES; work++) {
            int form = formOf[work - ADD_INTS];
            for (int n = 1; n <= 8; n++) {
                Line x = oneOfEach(n);
                x.station(17, work);
                long total = 0;
                for (int i = 0; i < n; i++) {
                    x.put(form, form, i, 1L << i % 7);
                    total += 1L << i % 7;
                }
                due(sendAndStep(x, form), 0);
                due(x.total(0), total);
                due(sendAndStep(x, form), 0);
                due(x.total(0), 2 * total);
                due(x.slot(0), NONE);
                due(x.number(form, form, n - 1), 1L << (n - 1) % 7);
            }
        }
    }

    private static void addOfNoPlaces() {
        about("ADD, HEAP, KEYS: all of a row without places is none");
        int[][] formAndWork = {{5, ADD_INTS}, {6, ADD_LONGS}, {4, ADD_BYTES}, {8, HEAP}, {9, HEAP}, {10, HEAP},
            {10, KEYS}, {11, KEYS}};
        for (int[] one : formAndWork) {
            Line x = oneOfEach(0);
            x.station(17, one[1]);
            due(sendAndStep(x, one[0]), 0);
            due(x.total(0), 0);
            due(x.count(3), 1);
            due(x.count(5), 0);
        }
    }

    private static void heap() {
        about("HEAP (8): TOTAL grows by the WEIGHTS of all its places");
        for (int form = 8; form <= 10; form++) {
            for (int n = 1; n <= 8; n++) {
                Line x = new Line();
                int row = x.row(form, n);
                x.station(17, HEAP);
                long total = 0;
                for (int i = 0; i < n; i++) {
                    int weight = i % 3 == 0 ? -1000 : 100 * i + 1;
                    x.lay(row, form, i, x.thing(form - 8, weight));
                    total += weight;
                }
                due(sendAndStep(x, row), 0);
                due(x.total(0), total);
                due(sendAndStep(x, row), 0);
                due(x.total(0), 2 * total);
                due(x.place(row, form, n - 1), n);
                due(x.slot(0), NONE);
            }
        }
    }

    private static void heapWithAHole() {
        about("HEAP: NOTHING, at the first place that holds none: TOTAL stays as it was");
        for (int hole = 0; hole < 8; hole++) {
            Line x = oneOfEach(8);
            x.station(8, HEAP);
            for (int i = 0; i < 8; i++) {
                x.lay(8, 8, i, 0);
            }
            due(sendAndStep(x, 8), 0);
            due(x.total(0), 40);
            x.lay(8, 8, hole, NONE);
            due(sendAndStep(x, 8), NOTHING);
            due(x.total(0), 40);
            due(x.side(0, 0), 8);
            due(x.count(7), 1);
            x.lay(8, 8, hole, 1);
            due(sendAndStep(x, 8), 0);
            due(x.total(0), 90);
        }
    }

    // The SLOT of a STATION that packs can not but hold NOTHING: only WEIGH and HOLD fill one, and each its own.
    private static void pack() {
        about("PACK (8): its place 0 becomes what the SLOT holds; the SLOT holds NOTHING then");
        for (int form = 8; form <= 10; form++) {
            for (int n : new int[] {1, 2, 8}) {
                Line x = oneOfEach(n);
                x.station(0, WEIGH);
                x.station(3, HOLD);
                x.station(17, PACK);
                sendAndStep(x, 0);
                sendAndStep(x, 3);
                for (int i = 0; i < n; i++) {
                    x.lay(form, form, i, 2);
                }
                due(sendAndStep(x, form), 2);
                for (int i = 0; i < n; i++) {
                    due(x.place(form, form, i), i == 0 ? NONE : 2);
                }
                due(sendAndStep(x, form), 2);
                due(x.place(form, form, 0), NONE);
                due(x.slot(2), NONE);
                due(x.slot(0), 0);
                due(x.slot(1), 3);
                due(x.total(2), 0);
                due(x.belt(0), NONE);
            }
        }
    }

    private static void packOfNoPlaces() {
        about("PACK: BEYOND");
        Line x = oneOfEach(0);
        x.station(17, PACK);
        for (int form = 8; form <= 10; form++) {
            due(sendAndStep(x, form), BEYOND);
            due(x.side(0, 0), form);
            due(x.side(0, 2), 3);
            due(x.slot(0), NONE);
        }
        due(sendAndStep(x, 11), CAST);
        due(x.count(8), 3);
        due(x.count(6), 1);
    }

    /** Lays SAFE 2 at place 0, and one of another WEIGHT wherever else there is a place. */
    private static void fillRow(Line x, int row, int n) {
        x.lay(row, 8, 0, 2);
        int heavy = x.thing(2, 999);
        for (int i = 1; i < n; i++) {
            x.lay(row, 8, i, heavy);
        }
    }

    private static void corner() {
        about("CORNER (12): TOTAL grows by the WEIGHT of place 0 of the row at its place 0");
        for (int pile = 12; pile <= 13; pile++) {
            for (int row = 8; row <= 10; row++) {
                for (int n : new int[] {1, 2, 8}) {
                    Line x = oneOfEach(n);
                    x.station(17, CORNER);
                    fillRow(x, row, n);
                    boolean fits = isOf(row, rowOf(pile));
                    due(x.lay(pile, pile, 0, row), fits ? 1 : CAST);
                    due(sendAndStep(x, pile), fits ? 0 : NOTHING);
                    due(sendAndStep(x, pile), fits ? 0 : NOTHING);
                    due(x.total(0), fits ? 50 : 0);
                    due(x.slot(0), NONE);
                }
            }
        }
    }

    private static void cornerStepByStep() {
        about("CORNER: BEYOND, NOTHING, step by step");
        Line x = oneOfEach(2);
        int emptyRow = x.row(8, 0), emptyPile = x.row(12, 0);
        x.station(17, CORNER);
        due(sendAndStep(x, emptyPile), BEYOND);
        due(sendAndStep(x, 12), NOTHING);
        x.lay(12, 12, 1, 8);
        x.lay(8, 8, 0, 1);
        due(sendAndStep(x, 12), NOTHING);
        x.lay(12, 12, 0, emptyRow);
        due(sendAndStep(x, 12), BEYOND);
        x.lay(12, 12, 0, 8);
        x.lay(8, 8, 0, NONE);
        x.lay(8, 8, 1, 1);
        due(sendAndStep(x, 12), NOTHING);
        due(x.total(0), 0);
        x.lay(8, 8, 0, 0);
        due(sendAndStep(x, 12), 0);
        due(x.total(0), 5);
        due(x.count(7), 3);
        due(x.count(8), 2);
    }

    private static void cornerStands() {
        about("CORNER, CELL, DEPTH: what is looked at stays where it is");
        Line x = oneOfEach(1);
        x.station(12, CORNER);
        x.station(7, CELL);
        x.station(15, DEPTH);
        x.lay(8, 8, 0, 0);
        x.lay(12, 12, 0, 8);
        x.lay(15, 15, 0, 12);
        x.lay(7, 7, 0, 5);
        x.put(5, 5, 0, 7);
        due(sendAndStep(x, 12), 0);
        due(sendAndStep(x, 7), 1);
        due(sendAndStep(x, 15), 2);
        due(x.place(8, 8, 0), 0);
        due(x.place(12, 12, 0), 8);
        due(x.place(15, 15, 0), 12);
        due(x.place(7, 7, 0), 5);
        due(x.number(5, 5, 0), 7);
        due(x.count(2), 0);
    }

    private static void cell() {
        about("CELL (7): likewise the number there");
        for (int number : new int[] {LEAST, -1, 0, 1, MOST}) {
            Line x = oneOfEach(2);
            x.station(17, CELL);
            x.put(5, 5, 0, number);
            x.put(5, 5, 1, 9);
            x.lay(7, 7, 0, 5);
            due(sendAndStep(x, 7), 0);
            due(x.total(0), number);
            due(sendAndStep(x, 7), 0);
            due(x.total(0), 2L * number);
        }
    }

    private static void cellStepByStep() {
        about("CELL: BEYOND, NOTHING, step by step");
        Line x = oneOfEach(2);
        int emptyInts = x.row(5, 0), emptyGrid = x.row(7, 0), oneInt = x.row(5, 1);
        x.station(17, CELL);
        due(sendAndStep(x, emptyGrid), BEYOND);
        due(sendAndStep(x, 7), NOTHING);
        x.put(oneInt, 5, 0, 3);
        x.lay(7, 7, 1, oneInt);
        due(sendAndStep(x, 7), NOTHING);
        x.lay(7, 7, 0, emptyInts);
        due(sendAndStep(x, 7), BEYOND);
        due(x.total(0), 0);
        x.lay(7, 7, 0, oneInt);
        due(sendAndStep(x, 7), 0);
        due(x.total(0), 3);
        due(x.count(7), 2);
        due(x.count(8), 2);
    }

    private static void depth() {
        about("DEPTH (15): likewise one step deeper");
        for (int pile = 12; pile <= 13; pile++) {
            for (int n : new int[] {1, 2, 8}) {
                Line x = oneOfEach(n);
                x.station(17, DEPTH);
                fillRow(x, 10, n);
                x.lay(pile, 12, 0, 10);
                due(x.lay(15, 15, 0, pile), 1);
                due(sendAndStep(x, 15), 0);
                due(sendAndStep(x, 15), 0);
                due(x.total(0), 50);
                due(x.slot(0), NONE);
            }
        }
    }

    private static void depthStepByStep() {
        about("DEPTH: BEYOND, NOTHING, step by step");
        Line x = oneOfEach(2);
        int emptyRow = x.row(8, 0), emptyPile = x.row(12, 0), emptyStack = x.row(15, 0);
        x.station(17, DEPTH);
        due(sendAndStep(x, emptyStack), BEYOND);
        due(sendAndStep(x, 15), NOTHING);
        x.lay(15, 15, 1, 12);
        due(sendAndStep(x, 15), NOTHING);
        x.lay(15, 15, 0, emptyPile);
        due(sendAndStep(x, 15), BEYOND);
        x.lay(15, 15, 0, 12);
        due(sendAndStep(x, 15), NOTHING);
        x.lay(12, 12, 1, 8);
        x.lay(12, 12, 0, emptyRow);
        due(sendAndStep(x, 15), BEYOND);
        x.lay(12, 12, 0, 8);
        x.lay(8, 8, 1, 0);
        due(sendAndStep(x, 15), NOTHING);
        due(x.total(0), 0);
        x.lay(8, 8, 0, 1);
        due(sendAndStep(x, 15), 0);
        due(x.total(0), 15);
        due(x.count(7), 4);
        due(x.count(8), 3);
        due(x.count(6), 0);
    }

    private static void keys() {
        about("KEYS (11): TOTAL grows by all KEYS, as HEAP");
        for (int form = 10; form <= 11; form++) {
            for (int n = 1; n <= 8; n++) {
                Line x = new Line();
                int row = x.row(form, n);
                x.station(17, KEYS);
                long total = 0;
                for (int i = 0; i < n; i++) {
                    boolean isBag = form == 11 && i % 2 == 0;
                    int weight = i % 3 == 0 ? -1000 : 100 * i;
                    x.lay(row, 11, i, x.thing(isBag ? 3 : 2, weight));
                    total += isBag ? weight - 7 : weight * 3 + 1;
                }
                due(sendAndStep(x, row), 0);
                due(x.total(0), total);
                due(sendAndStep(x, row), 0);
                due(x.total(0), 2 * total);
                due(x.place(row, form, n - 1), n);
                due(x.slot(0), NONE);
            }
        }
    }

    private static void keysWithAHole() {
        about("KEYS, as HEAP: NOTHING, at the first place that holds none: TOTAL stays as it was");
        for (int hole = 0; hole < 8; hole++) {
            Line x = oneOfEach(8);
            x.station(17, KEYS);
            for (int i = 0; i < 8; i++) {
                x.lay(11, 11, i, 3);
            }
            due(sendAndStep(x, 11), 0);
            due(x.total(0), 8 * 28);
            x.lay(11, 11, hole, NONE);
            due(sendAndStep(x, 11), NOTHING);
            due(x.total(0), 8 * 28);
            due(x.count(7), 1);
            x.lay(11, 11, hole, 2);
            due(sendAndStep(x, 11), 0);
            due(x.total(0), 15 * 28 + 76);
        }
    }

    private static void spillInOrder() {
        about("SPILL (8): what stands at its places (but NOTHING) comes behind on THE BELT, in order");
        for (int filled = 0; filled < 256; filled++) {
            Line x = new Line();
            int row = x.row(8, 8);
            x.station(8, SPILL);
            for (int i = 0; i < 8; i++) {
                int parcel = x.thing(0, i);
                x.lay(row, 8, i, (filled >> i & 1) == 1 ? parcel : NONE);
            }
            x.send(row);
            x.send(8);
            due(x.step(), 0);
            due(x.belt(0), 8);
            int behind = 1;
            for (int i = 0; i < 8; i++) {
                if ((filled >> i & 1) == 1) {
                    due(x.belt(behind), i + 1);
                    behind++;
                }
                due(x.place(row, 8, i), NONE);
            }
            due(x.count(2), behind);
            due(x.total(0), 0);
            due(x.slot(0), NONE);
        }
    }

    private static void spillAsFarAsThereIsRoom() {
        about("SPILL: as far as there is room (what finds none stays); these places hold NOTHING then");
        for (int form = 8; form <= 10; form++) {
            for (int room = 1; room <= 9; room++) {
                Line x = oneOfEach(8);
                x.station(8, SPILL);
                for (int i = 0; i < 8; i++) {
                    x.lay(form, form, i, i == 3 ? NONE : 2);
                }
                x.send(form);
                sendOften(x, 7, 40 - room);
                due(x.step(), 0);
                int moved = Math.min(room, 7);
                due(x.count(2), 40 - room + moved);
                due(x.belt(39 - room), 7);
                due(x.belt(40 - room), 2);
                due(x.belt(39 - room + moved), 2);
                due(x.belt(40 - room + moved), NONE);
                dueLeft(x, form, moved);
            }
        }
    }

    private static void dueLeft(Line x, int form, int moved) {
        int seen = 0;
        for (int i = 0; i < 8; i++) {
            boolean stood = i != 3;
            due(x.place(form, form, i), stood && seen >= moved ? 2 : NONE);
            seen += stood ? 1 : 0;
        }
        due(x.count(3), 1);
        due(x.count(5), 0);
        due(x.side(0, 0), NONE);
    }

    private static void spillWhereTheBeltGoesRound() {
        about("SPILL: what found no room comes when the row comes again");
        for (int before = 0; before < 40; before++) {
            Line x = oneOfEach(3);
            sendOften(x, 7, before);
            due(x.run(100), before);
            x.station(8, SPILL);
            x.lay(8, 8, 0, 0);
            x.lay(8, 8, 1, 1);
            x.lay(8, 8, 2, 2);
            x.send(8);
            sendOften(x, 7, 38);
            x.send(8);
            due(x.send(8), FULL);
            due(x.step(), 0);
            due(x.count(2), 40);
            due(x.belt(38), 8);
            due(x.belt(39), 0);
            due(x.place(8, 8, 0), NONE);
            due(x.place(8, 8, 1), 1);
            due(x.place(8, 8, 2), 2);
            due(x.run(38), 38);
            due(x.step(), 0);
            int[] belt = {0, 1, 2, NONE};
            for (int i = 0; i < belt.length; i++) {
                due(x.belt(i), belt[i]);
            }
            due(x.place(8, 8, 1), NONE);
            due(x.place(8, 8, 2), NONE);
        }
    }

    private static void spillOfNothing() {
        about("SPILL: a row that holds NOTHING, or has no places, is worked all the same");
        for (int n : new int[] {0, 1, 8}) {
            Line x = oneOfEach(n);
            x.station(17, SPILL);
            for (int form = 8; form <= 10; form++) {
                due(sendAndStep(x, form), 0);
                due(x.count(2), 0);
            }
            due(x.count(3), 3);
        }
    }

    private static void hold() {
        about("HOLD (17): it comes into the SLOT");
        Line x = oneOfEach(1);
        x.station(17, HOLD);
        for (int form = 0; form <= 15; form++) {
            due(sendAndStep(x, form), 0);
            due(x.slot(0), form);
            due(x.total(0), 0);
        }
        due(x.count(3), 16);
    }

    private static void findingsDoNothingElse() {
        about("With a FINDING the THING comes to THE SIDE, and nothing else is done");
        Line x = oneOfEach(2);
        x.station(0, WEIGH);
        x.station(3, WEIGH);
        x.station(8, HEAP);
        x.station(17, WEIGH);
        sendAndStep(x, 1);
        x.lay(9, 9, 0, 1);
        x.put(5, 5, 0, 4);
        int[] failing = {3, 9, 5};
        int[] stations = {1, 2, 3};
        int[] findings = {CAST, NOTHING, CAST};
        for (int k = 0; k < failing.length; k++) {
            x.send(failing[k]);
            x.send(0);
            due(x.step(), findings[k]);
            due(x.count(2), 1);
            due(x.belt(0), 0);
            due(x.side(0, 0), failing[k]);
            due(x.side(0, 1), stations[k]);
            due(x.side(0, 2), -20 - findings[k]);
            due(x.total(stations[k]), 0);
            due(x.slot(stations[k]), NONE);
            due(x.count(3), 1 + k);
            due(x.count(5), 1 + k);
            due(x.step(), 0);
        }
        due(x.place(9, 9, 0), 1);
        due(x.number(5, 5, 0), 4);
        due(x.total(0), 30);
        due(x.slot(0), 0);
        due(x.count(6), 2);
        due(x.count(7), 1);
    }

    private static void findingsLeaveTotalAndSlot() {
        about("With a FINDING .. nothing else is done: TOTAL and SLOT stay as they were");
        int[] worked = {1, 2, 5, 6, 4, 8, 8, 12, 7, 15, 11, 9, 3};
        long[] totals = {15, 76, 9, 9, 9, 5, 0, 5, 9, 5, 28, 0, 0};
        for (int work = WEIGH; work <= HOLD; work++) {
            Line x = oneOfEach(1);
            int emptyRow = x.row(8, 0);
            fillFirstPlaces(x);
            x.station(17, work);
            int slot = work == WEIGH || work == HOLD ? worked[work] : NONE;
            due(sendAndStep(x, worked[work]), 0);
            due(x.total(0), totals[work]);
            due(x.slot(0), slot);
            for (int form = 0; form <= 15 && work != HOLD; form++) {
                if (!isOf(form, TAKEN_FOR[work])) {
                    due(sendAndStep(x, form), CAST);
                    due(x.total(0), totals[work]);
                    due(x.slot(0), slot);
                }
            }
            due(sendAndStep(x, emptyRow), isOf(8, TAKEN_FOR[work]) ? whenTaken(work, 0) : CAST);
            due(x.total(0), totals[work]);
        }
    }

    private static void fillFirstPlaces(Line x) {
        for (int form = 4; form <= 6; form++) {
            x.put(form, form, 0, 9);
        }
        x.lay(7, 7, 0, 5);
        x.lay(8, 8, 0, 0);
        x.lay(11, 11, 0, 3);
        x.lay(12, 12, 0, 8);
        x.lay(15, 15, 0, 12);
    }

    private static void theLatestTwentyAreTold() {
        about("THE SIDE (the latest 20 are told)");
        for (int came : new int[] {1, 2, 19, 20, 21, 22, 39, 40, 41, 60, 61}) {
            Line x = oneOfEach(1);
            x.station(15, WEIGH);
            x.station(8, HEAP);
            x.station(17, WEIGH);
            for (int k = 0; k < came; k++) {
                x.send(3 + k % 13);
                due(x.run(1), 1000);
            }
            for (int i = 0; i < 21; i++) {
                boolean told = i < 20 && i < came;
                int form = 3 + Math.floorMod(came - 1 - i, 13);
                boolean heap = isOf(form, 8);
                due(x.side(i, 0), told ? form : NONE);
                due(x.side(i, 1), told ? form == 15 ? 0 : heap ? 1 : 2 : NONE);
                due(x.side(i, 2), told ? heap ? 2 : 1 : NONE);
            }
            due(x.count(5), came);
        }
    }

    private static void oneMayBeAtTheSideOften() {
        about("THE SIDE tells each time that a THING came, and only those with a FINDING");
        Line x = oneOfEach(1);
        x.station(3, WEIGH);
        x.station(17, HOLD);
        for (int k = 0; k < 3; k++) {
            due(sendAndStep(x, 3), CAST);
            due(sendAndStep(x, 4), 1);
        }
        due(x.weight(3, 0), -2000000021);
        due(x.length(3, 4), CAST);
        for (int i = 0; i < 4; i++) {
            due(x.side(i, 0), i < 3 ? 3 : NONE);
        }
    }
}
