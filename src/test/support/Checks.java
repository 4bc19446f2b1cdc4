import java.util.Arrays;
import java.util.NoSuchElementException;
import java.util.Objects;

/**
 * What the tests share: named tests and their checks, tables to begin with, and what can be seen of an object.
 * No object is used for more than the 512 calls that the document promises.
 */
abstract class Checks {
    static final int GAP = Plotwise.MISSING;
    static final int NO = Plotwise.NO_COLUMN;
    static final int MIN = Integer.MIN_VALUE;
    static final int MAX = Integer.MAX_VALUE;
    static final int NONE = Plotwise.NONE;
    static final int COUNT = Plotwise.COUNT;
    static final int MEAN = Plotwise.MEAN;
    static final int EMPTY = Plotwise.EMPTY;
    static final int CONSTANT = Plotwise.CONSTANT;
    static final int TIME = Plotwise.TIME;
    static final int CATEGORY = Plotwise.CATEGORY;
    static final int QUANTITY = Plotwise.QUANTITY;
    static final int X = Plotwise.X;
    static final int Y = Plotwise.Y;
    static final int COLOUR = Plotwise.COLOUR;
    static final int SIZE = Plotwise.SIZE;
    static final int[] NO_COLUMNS = {-1, 6, MIN, MAX};
    static final int[] NO_CHANNELS = {-1, 4, MIN, MAX};
    static final int[] NO_VALUES = {-10001, 10000, MIN, MAX};

    static final Class<?> INDEX = IndexOutOfBoundsException.class;
    static final Class<?> ARGUMENT = IllegalArgumentException.class;
    static final Class<?> STATE = IllegalStateException.class;
    static final Class<?> NO_ELEMENT = NoSuchElementException.class;
    static final Class<?> ARITHMETIC = ArithmeticException.class;
    static final Class<?> UNSUPPORTED = UnsupportedOperationException.class;

    private static final int[] FIRST_WEIGHTS = {3, 4, 2, 5, 3, 2, 6, 1};

    private static String current = "";
    private static int tests = 0;
    private static int checks = 0;
    private static int wrong = 0;

    interface Body {
        void run();
    }

    interface Maker {
        Plotwise make();
    }

    interface Call {
        Object of(Plotwise p);
    }

    // ---- checks

    static void test(String name, Body body) {
        current = name;
        tests++;
        try {
            body.run();
        } catch (RuntimeException e) {
            fail("threw " + e);
        }
        current = "";
    }

    static void due(Object got, Object want) {
        due("", got, want);
    }

    static void due(String what, Object got, Object want) {
        checks++;
        if (!Objects.equals(got, want)) {
            fail(what + " answered " + got + ", due is " + want);
        }
    }

    /** The call throws exactly this exception. */
    static void dueThrow(String what, Plotwise p, Class<?> kind, Call call) {
        due(what, answer(p, call), kind.getName());
    }

    /** A test that the call throws exactly this exception, and that no later call can tell that it was made. */
    static void refused(String name, Class<?> kind, Maker maker, Call call) {
        test(name, () -> {
            Plotwise p = maker.make();
            dueThrow("", p, kind, call);
            dueAlike(p, maker.make());
        });
    }

    /** Whether every later call would answer the same on both; neither can be used afterwards. */
    static void dueAlike(Plotwise p, Plotwise q) {
        due("all that can be asked", asked(p), asked(q));
        due("all that can be kept", kept(p), kept(q));
    }

    static void finish() {
        System.out.println(tests + " tests, " + checks + " checks, " + wrong + " wrong");
        if (wrong != 0) {
            System.exit(1);
        }
    }

    private static void fail(String what) {
        wrong++;
        System.out.println(current + ": " + what);
    }

    // ---- what can be seen of an object

    static String answer(Plotwise p, Call call) {
        try {
            return String.valueOf(call.of(p));
        } catch (RuntimeException e) {
            return e.getClass().getName();
        }
    }

    static String ranked(Plotwise p, int rank) {
        return p.cost(rank) + ":" + p.mark(rank) + p.aggregate(rank) + " " + p.column(rank, 0) + " "
                + p.column(rank, 1) + " " + p.column(rank, 2) + " " + p.column(rank, 3);
    }

    static String ranking(Plotwise p) {
        StringBuilder s = new StringBuilder();
        for (int r = 0; r < 6; r++) {
            int rank = r;
            s.append(r == 0 ? "" : ", ").append(answer(p, q -> ranked(q, rank)));
        }
        return s.toString().replace(", java.util.NoSuchElementException", "");
    }

    static String picked(Plotwise p) {
        return p.pickMark() + "" + p.pickAggregate() + " " + p.pickColumn(0) + " " + p.pickColumn(1) + " "
                + p.pickColumn(2) + " " + p.pickColumn(3);
    }

    /** What can be asked without changing anything: at most 85 calls. */
    static String asked(Plotwise p) {
        StringBuilder s = new StringBuilder();
        s.append(p.rows()).append(' ').append(p.allowed()).append(' ').append(p.isSound());
        for (int c = 0; c < 6; c++) {
            int column = c;
            s.append(" c").append(p.different(c)).append(' ').append(p.sumOf(c)).append(' ').append(p.kindOf(c));
            s.append(' ').append(answer(p, q -> q.meanOf(column))).append(' ').append(answer(p, q -> q.filled(column)));
        }
        s.append(' ').append(ranking(p)).append(' ').append(answer(p, q -> q.costByTrying(0)));
        s.append(" p").append(answer(p, Checks::picked)).append(' ').append(p.formerPicks());
        s.append(" d").append(p.brokenRule()).append(' ').append(p.softRules());
        s.append(' ').append(answer(p, Plotwise::draftCost)).append(' ').append(answer(p, Plotwise::draftRank));
        return s.toString();
    }

    /** What shows only in calls that change it: at most 345 calls, after which the object is of no further use. */
    static String kept(Plotwise p) {
        StringBuilder s = new StringBuilder();
        s.append(p.setMargin(0)).append(' ').append(p.wishMark('-')).append(" w");
        for (int rule = 0; rule < 8; rule++) {
            s.append(p.setWeight(rule, FIRST_WEIGHTS[rule])).append(' ');
        }
        for (int i = 0; i < 5; i++) {
            s.append(answer(p, Checks::picked)).append(' ').append(answer(p, Plotwise::unpick)).append(' ');
        }
        s.append(" d").append(drafted(p)).append(" t");
        for (int rows = p.rows(); rows < 2; rows++) {
            s.append(p.addRow(GAP, GAP, GAP, GAP, GAP, GAP));
        }
        int rows = p.rows();
        for (int c = 0; c < 6; c++) {
            int column = c;
            for (int row = 0; row < rows; row++) {
                s.append(' ').append(p.put(row, c, row));
            }
            // now that the column has different values, it shows the kind to which it was forced
            s.append(" k").append(p.kindOf(c)).append(' ').append(answer(p, q -> q.unforce(column)));
            s.append(" w").append(p.wish(c, true));
            for (int ch = 0; ch < 4; ch++) {
                int channel = ch;
                s.append(' ').append(answer(p, q -> q.forbid(column, channel)));
            }
        }
        return s.toString();
    }

    /** The draft, which is without columns afterwards. */
    static String drafted(Plotwise p) {
        return p.draftMark('b') + "" + p.draftAggregate(0) + " " + p.draftColumn(0, NO) + " " + p.draftColumn(1, NO)
                + " " + p.draftColumn(2, NO) + " " + p.draftColumn(3, NO);
    }

    // ---- the draft

    static void draft(Plotwise p, char mark, int aggregate, int x, int y, int colour, int size) {
        p.draftMark(mark);
        p.draftAggregate(aggregate);
        for (int channel = 0; channel < 4; channel++) {
            p.draftColumn(channel, NO);
        }
        p.draftColumn(X, x);
        p.draftColumn(Y, y);
        p.draftColumn(COLOUR, colour);
        p.draftColumn(SIZE, size);
    }

    static int ruleOf(Plotwise p, char mark, int aggregate, int x, int y, int colour, int size) {
        draft(p, mark, aggregate, x, y, colour, size);
        return p.brokenRule();
    }

    static int softOf(Plotwise p, char mark, int aggregate, int x, int y, int colour, int size) {
        draft(p, mark, aggregate, x, y, colour, size);
        return p.softRules();
    }

    static int costOf(Plotwise p, char mark, int aggregate, int x, int y, int colour, int size) {
        draft(p, mark, aggregate, x, y, colour, size);
        return p.draftCost();
    }

    static int rankOf(Plotwise p, char mark, int aggregate, int x, int y, int colour, int size) {
        draft(p, mark, aggregate, x, y, colour, size);
        return p.draftRank();
    }

    // ---- tables to begin with

    /** Columns 0 to 5: TIME, CATEGORY, CATEGORY, QUANTITY, QUANTITY, CONSTANT. */
    static Plotwise sample() {
        Plotwise p = new Plotwise();
        p.addRow(1, 1, 1, 10, 7, 5);
        p.addRow(2, 2, 1, 30, 9, 5);
        p.addRow(3, 1, 2, 20, 4, 5);
        p.addRow(4, 2, 2, 50, 6, 5);
        p.addRow(5, 1, 1, 40, 2, GAP);
        p.addRow(6, 2, 2, 60, 8, GAP);
        return p;
    }

    /** The sample with something of all that can be set: picks, forced kinds, wishes, rules and a draft. */
    static Plotwise rich() {
        Plotwise p = sample();
        p.pick();
        p.wishMark('l');
        p.pick();
        p.wishMark('p');
        p.pick();
        p.force(2, QUANTITY);
        p.force(5, TIME);
        p.wish(3, true);
        p.forbid(4, COLOUR);
        p.forbid(0, SIZE);
        p.setWeight(0, 7);
        p.setWeight(7, 0);
        p.setMargin(5);
        draft(p, 'p', MEAN, 0, 3, 1, NO);
        return p;
    }

    /** The rich one, where no chart is allowed any more. */
    static Plotwise richWithoutCharts() {
        Plotwise p = rich();
        p.wish(5, true);
        return p;
    }

    /** Columns 0 to 5: TIME, CATEGORY, QUANTITY, QUANTITY, CONSTANT, EMPTY. */
    static Plotwise oneOfEach() {
        Plotwise p = new Plotwise();
        p.addRow(1, 1, 10, 7, 5, GAP);
        p.addRow(2, 2, 30, 9, 5, GAP);
        p.addRow(3, 1, 20, 4, 5, GAP);
        p.addRow(4, 2, 50, 6, 5, GAP);
        return p;
    }

    /** Column 0 holds the values, the others none. */
    static Plotwise withValues(int... values) {
        Plotwise p = new Plotwise();
        for (int value : values) {
            p.addRow(value, GAP, GAP, GAP, GAP, GAP);
        }
        return p;
    }

    /** So many rows; columns 0 to 5 are TIME, CATEGORY, QUANTITY, QUANTITY, CONSTANT, EMPTY if there are enough. */
    static Plotwise tall(int rows) {
        Plotwise p = new Plotwise();
        for (int row = 0; row < rows; row++) {
            p.addRow(row - 9999, row % 2, row * 7 % 41, 9999 - row, 3, GAP);
        }
        return p;
    }

    /** Each column has the same values. */
    static Plotwise sixAlike(int... values) {
        Plotwise p = new Plotwise();
        for (int v : values) {
            p.addRow(v, v, v, v, v, v);
        }
        return p;
    }

    static String join(int... numbers) {
        return Arrays.toString(numbers);
    }
}
