/** What the tests share: the document's numbers, its table of KINDS, and the telling of answers that are not due. */
abstract class Checks {
    static final int UNKNOWN = -1, OUTSIDE = -2, FULL = -4, NONE = -5, PASSED = -6;
    static final int CAST = -21, NOTHING = -22, BEYOND = -23, STORE = -24, SIZE = -25;
    static final int LEAST = Integer.MIN_VALUE, MOST = Integer.MAX_VALUE;

    static final int WEIGH = 0, OPEN = 1, ADD_INTS = 2, ADD_LONGS = 3, ADD_BYTES = 4, HEAP = 5, PACK = 6;
    static final int CORNER = 7, CELL = 8, DEPTH = 9, KEYS = 10, SPILL = 11, HOLD = 12;

    /** The KINDS that each FORM is, as the document's Terms tell them. */
    private static final int[][] IS = {
        {0, 17}, {0, 1, 17}, {0, 1, 2, 16, 17}, {3, 16, 17},
        {4, 17}, {5, 17}, {6, 17}, {7, 17},
        {8, 17}, {8, 9, 17}, {8, 9, 10, 11, 17}, {11, 17},
        {12, 17}, {12, 13, 17}, {14, 17}, {15, 17},
    };

    /** What each KIND from 7 on is a row of. */
    private static final int[] ROW_OF = {5, 0, 1, 2, 16, 8, 9, 11, 12};

    /** The KIND that each WORK takes a THING for. */
    static final int[] TAKEN_FOR = {0, 16, 5, 6, 4, 8, 8, 12, 7, 15, 11, 8, 17};

    private static final int MOST_SHOWN = 40;
    private static String sentence = "";
    private static int wrong = 0;

    static boolean isOf(int form, int kind) {
        for (int one : IS[form]) {
            if (one == kind) {
                return true;
            }
        }
        return false;
    }

    static int rowOf(int kind) {
        return ROW_OF[kind - 7];
    }

    /** The numbers beside a range and far from it. */
    static int[] outside(int least, int most) {
        return new int[] {LEAST, least - 1, most + 1, MOST};
    }

    /** Names the sentence of the document that the answers from here on are due by. */
    static void about(String sentenceOfTheDocument) {
        sentence = sentenceOfTheDocument;
    }

    static void due(long got, long want) {
        if (got != want) {
            tell(Line.latestCall() + " answered " + got + ", due is " + want);
        }
    }

    static void due(String got, String want) {
        if (!got.equals(want)) {
            tell(Line.latestCall() + " answered " + got + ", due is " + want);
        }
    }

    static void tell(String what) {
        wrong++;
        if (wrong <= MOST_SHOWN) {
            System.out.println(sentence.isEmpty() ? what : "'" + sentence + "': " + what);
        }
    }

    static void finish() {
        System.out.println(wrong == 0 ? "all answers are as due" : wrong + " answers are not as due");
        if (wrong != 0) {
            System.exit(1);
        }
    }

    /** THING f is of FORM f; the WEIGHTS are 5, 15, 25, 35, and the rows have n places. */
    static Line oneOfEach(int n) {
        Line x = new Line();
        for (int form = 0; form < 4; form++) {
            x.thing(form, 5 + 10 * form);
        }
        for (int form = 4; form < 16; form++) {
            x.row(form, n);
        }
        return x;
    }

    static int sendAndStep(Line x, int thing) {
        x.send(thing);
        return x.step();
    }

    static void sendOften(Line x, int thing, int times) {
        for (int k = 0; k < times; k++) {
            x.send(thing);
        }
    }
}
