import java.util.NoSuchElementException;

/** A chart recommender: from the rows of a table it finds the charts that are allowed, and the best of them. */
public final class Plotwise {
    public static final int MISSING = -10000;
    public static final int NO_COLUMN = -1;
    public static final int EMPTY = 0;
    public static final int CONSTANT = 1;
    public static final int TIME = 2;
    public static final int CATEGORY = 3;
    public static final int QUANTITY = 4;
    public static final int NONE = 0;
    public static final int COUNT = 1;
    public static final int MEAN = 2;
    public static final int X = 0;
    public static final int Y = 1;
    public static final int COLOUR = 2;
    public static final int SIZE = 3;

    private static final int COLUMNS = 6;
    private static final int CHANNELS = 4;
    private static final int MOST_ROWS = 40;
    private static final int MOST_VALUE = 9999;
    private static final int MOST_WEIGHT = 99;
    private static final int MOST_MARGIN = 99;
    private static final int FIRST_MARGIN = 3;
    private static final int MOST_TRIED_COLUMNS = 3;
    private static final int NO_KIND = -1;
    private static final int NO_CHART = -1;
    private static final char BARS = 'b';
    private static final char LINE = 'l';
    private static final char POINTS = 'p';
    private static final char NO_MARK = '-';
    private static final char[] MARKS = {'b', 'l', 'p'};

    private final Table table;
    private final HardRules hardRules;
    private final Costs costs;
    private final Search search;
    private final Trial trial;
    private final Picks picks;
    private int margin;
    private int draft;

    public Plotwise() {
        table = new Table();
        hardRules = new HardRules(table);
        costs = new Costs(table);
        search = new Search(hardRules, costs);
        trial = new Trial(hardRules, costs);
        picks = new Picks();
        margin = FIRST_MARGIN;
        draft = Chart.bare(BARS, NONE);
    }

    // ---- the table

    public int addRow(int a, int b, int c, int d, int e, int f)
            throws IllegalArgumentException, IllegalStateException {
        boolean areValues = isValue(a) && isValue(b) && isValue(c) && isValue(d) && isValue(e) && isValue(f);
        if (!areValues) {
            throw new IllegalArgumentException("a value is out of range");
        }
        if (table.rowCount() >= MOST_ROWS) {
            throw new IllegalStateException("the table is full");
        }
        table.append(a, b, c, d, e, f);
        search.spoil();
        return table.rowCount();
    }

    public int dropRow(int row) throws IndexOutOfBoundsException {
        if (!table.hasRow(row)) {
            throw new IndexOutOfBoundsException("no such row");
        }
        table.remove(row);
        search.spoil();
        return table.rowCount();
    }

    public int put(int row, int column, int value) throws IndexOutOfBoundsException, IllegalArgumentException {
        if (!table.hasRow(row) || !isColumn(column)) {
            throw new IndexOutOfBoundsException("no such row or column");
        }
        if (!isValue(value)) {
            throw new IllegalArgumentException("the value is out of range");
        }
        int before = table.valueAt(row, column);
        table.change(row, column, value);
        search.spoil();
        return before;
    }

    public int rows() {
        return table.rowCount();
    }

    public int different(int column) throws IndexOutOfBoundsException {
        requireColumn(column);
        return table.differentIn(column);
    }

    public long sumOf(int column) throws IndexOutOfBoundsException {
        requireColumn(column);
        return table.sumIn(column);
    }

    public double meanOf(int column) throws IndexOutOfBoundsException, ArithmeticException {
        requireColumn(column);
        int count = table.countIn(column);
        if (count == 0) {
            throw new ArithmeticException("the column has no values");
        }
        return (double) table.sumIn(column) / (double) count;
    }

    public float filled(int column) throws IndexOutOfBoundsException, ArithmeticException {
        requireColumn(column);
        int rowCount = table.rowCount();
        if (rowCount == 0) {
            throw new ArithmeticException("there are no rows");
        }
        return (float) table.countIn(column) / (float) rowCount;
    }

    public int kindOf(int column) throws IndexOutOfBoundsException {
        requireColumn(column);
        return table.kindAt(column);
    }

    public int force(int column, int kind) throws IndexOutOfBoundsException, IllegalArgumentException {
        requireColumn(column);
        if (kind != TIME && kind != CATEGORY && kind != QUANTITY) {
            throw new IllegalArgumentException("no kind to force");
        }
        table.setForcedKind(column, kind);
        search.spoil();
        return table.kindAt(column);
    }

    public int unforce(int column) throws IndexOutOfBoundsException, IllegalStateException {
        requireColumn(column);
        if (table.forcedKindAt(column) == NO_KIND) {
            throw new IllegalStateException("the column is not forced");
        }
        table.setForcedKind(column, NO_KIND);
        search.spoil();
        return table.kindAt(column);
    }

    // ---- wishes and rules

    public int wish(int column, boolean isWished) throws IndexOutOfBoundsException {
        requireColumn(column);
        search.spoil();
        return hardRules.wishColumn(column, isWished);
    }

    public char wishMark(char mark) throws IllegalArgumentException {
        if (!isMark(mark) && mark != NO_MARK) {
            throw new IllegalArgumentException("no such mark");
        }
        search.spoil();
        return hardRules.exchangeWishedMark(mark);
    }

    public int forbid(int column, int channel) throws IndexOutOfBoundsException, IllegalStateException {
        requirePair(column, channel);
        if (hardRules.isForbidden(column, channel)) {
            throw new IllegalStateException("forbidden already");
        }
        search.spoil();
        return hardRules.turnForbidden(column, channel);
    }

    public int allow(int column, int channel) throws IndexOutOfBoundsException, IllegalStateException {
        requirePair(column, channel);
        if (!hardRules.isForbidden(column, channel)) {
            throw new IllegalStateException("not forbidden");
        }
        search.spoil();
        return hardRules.turnForbidden(column, channel);
    }

    public int setWeight(int rule, int weight) throws IndexOutOfBoundsException, IllegalArgumentException {
        if (!costs.hasRule(rule)) {
            throw new IndexOutOfBoundsException("no such soft rule");
        }
        if (weight < 0 || weight > MOST_WEIGHT) {
            throw new IllegalArgumentException("the weight is out of range");
        }
        search.spoil();
        return costs.exchangeWeight(rule, weight);
    }

    // ---- the ranking

    public int allowed() {
        trial.run();
        return trial.allowedCount();
    }

    public int cost(int rank) throws NoSuchElementException {
        Best best = search.ranking();
        requireRank(best, rank);
        return Place.costOf(best.placeAt(rank));
    }

    public int costByTrying(int rank) throws UnsupportedOperationException, NoSuchElementException {
        if (table.usableColumns() > MOST_TRIED_COLUMNS) {
            throw new UnsupportedOperationException("too many columns to try all charts");
        }
        trial.run();
        Best best = trial.ranking();
        requireRank(best, rank);
        return Place.costOf(best.placeAt(rank));
    }

    public char mark(int rank) throws NoSuchElementException {
        Best best = search.ranking();
        requireRank(best, rank);
        return Chart.markOf(best.chartAt(rank));
    }

    public int aggregate(int rank) throws NoSuchElementException {
        Best best = search.ranking();
        requireRank(best, rank);
        return Chart.aggregateOf(best.chartAt(rank));
    }

    public int column(int rank, int channel) throws NoSuchElementException, IndexOutOfBoundsException {
        Best best = search.ranking();
        requireRank(best, rank);
        requireChannel(channel);
        return Chart.columnIn(best.chartAt(rank), channel);
    }

    // ---- picks

    public int setMargin(int margin) throws IllegalArgumentException {
        if (margin < 0 || margin > MOST_MARGIN) {
            throw new IllegalArgumentException("the margin is out of range");
        }
        int before = this.margin;
        this.margin = margin;
        return before;
    }

    public boolean pick() throws NoSuchElementException {
        Best best = search.ranking();
        if (!best.hasRank(0)) {
            throw new NoSuchElementException("no chart is allowed");
        }
        if (picks.hasPresent() && isGoodEnough(picks.present(), best)) {
            return false;
        }
        picks.become(best.chartAt(0));
        return true;
    }

    public char pickMark() throws IllegalStateException {
        requirePick();
        return Chart.markOf(picks.present());
    }

    public int pickAggregate() throws IllegalStateException {
        requirePick();
        return Chart.aggregateOf(picks.present());
    }

    public int pickColumn(int channel) throws IndexOutOfBoundsException, IllegalStateException {
        requireChannel(channel);
        requirePick();
        return Chart.columnIn(picks.present(), channel);
    }

    public int formerPicks() {
        return picks.formerCount();
    }

    public int unpick() throws IllegalStateException {
        if (picks.formerCount() == 0) {
            throw new IllegalStateException("there is no former pick");
        }
        picks.goBack();
        return picks.formerCount();
    }

    public int forget() {
        return picks.dropForbidden(hardRules);
    }

    // ---- the draft

    public char draftMark(char mark) throws IllegalArgumentException {
        if (!isMark(mark)) {
            throw new IllegalArgumentException("no such mark");
        }
        char before = Chart.markOf(draft);
        draft = Chart.withMark(draft, mark);
        return before;
    }

    public int draftAggregate(int aggregate) throws IllegalArgumentException {
        if (aggregate != NONE && aggregate != COUNT && aggregate != MEAN) {
            throw new IllegalArgumentException("no such aggregate");
        }
        int before = Chart.aggregateOf(draft);
        draft = Chart.withAggregate(draft, aggregate);
        return before;
    }

    public int draftColumn(int channel, int column) throws IndexOutOfBoundsException, IllegalStateException {
        requireChannel(channel);
        if (column != NO_COLUMN) {
            requireColumn(column);
        }
        int before = Chart.columnIn(draft, channel);
        if (column != before && Chart.holds(draft, column)) {
            throw new IllegalStateException("the column is in another channel");
        }
        draft = Chart.withColumn(draft, channel, column);
        return before;
    }

    public int brokenRule() {
        return hardRules.firstBroken(draft);
    }

    public int softRules() {
        return costs.brokenSoftRules(draft);
    }

    public int draftCost() throws IllegalStateException {
        requireAllowedDraft();
        return costs.costOf(draft);
    }

    public int draftRank() throws IllegalStateException {
        requireAllowedDraft();
        return trial.countBetterThan(draft);
    }

    public boolean isSound() {
        Best best = search.ranking();
        trial.run();
        return isRankingAllowed(best) && isRankingInOrder(best) && isFirstConfirmed(best, trial.ranking());
    }

    private static boolean isValue(int value) {
        return value == MISSING || value >= -MOST_VALUE && value <= MOST_VALUE;
    }

    private static boolean isColumn(int column) {
        return column >= 0 && column < COLUMNS;
    }

    private static boolean isChannel(int channel) {
        return channel >= 0 && channel < CHANNELS;
    }

    private static boolean isMark(char mark) {
        return mark == BARS || mark == LINE || mark == POINTS;
    }

    private static void requireColumn(int column) {
        if (!isColumn(column)) {
            throw new IndexOutOfBoundsException("no such column");
        }
    }

    private static void requireChannel(int channel) {
        if (!isChannel(channel)) {
            throw new IndexOutOfBoundsException("no such channel");
        }
    }

    private static void requirePair(int column, int channel) {
        requireColumn(column);
        requireChannel(channel);
    }

    private static void requireRank(Best best, int rank) {
        if (!best.hasRank(rank)) {
            throw new NoSuchElementException("the ranking has no such rank");
        }
    }

    private void requirePick() {
        if (!picks.hasPresent()) {
            throw new IllegalStateException("there is no pick");
        }
    }

    private void requireAllowedDraft() {
        if (!hardRules.allows(draft)) {
            throw new IllegalStateException("the draft is not allowed");
        }
    }

    private boolean isGoodEnough(int chart, Best best) {
        return hardRules.allows(chart) && costs.costOf(chart) <= Place.costOf(best.placeAt(0)) + margin;
    }

    private boolean isRankingAllowed(Best best) {
        for (int rank = 0; rank < best.size(); rank++) {
            if (!hardRules.allows(best.chartAt(rank))) {
                return false;
            }
        }
        return true;
    }

    private boolean isRankingInOrder(Best best) {
        for (int rank = 1; rank < best.size(); rank++) {
            int chart = best.chartAt(rank);
            int ahead = best.chartAt(rank - 1);
            if (Place.of(costs.costOf(chart), chart) < Place.of(costs.costOf(ahead), ahead)) {
                return false;
            }
        }
        return true;
    }

    private boolean isFirstConfirmed(Best best, Best tried) {
        if (!best.hasRank(0)) {
            return !tried.hasRank(0);
        }
        return tried.hasRank(0) && costs.costOf(best.chartAt(0)) == Place.costOf(tried.placeAt(0));
    }

    /**
     * A chart is one number: its mark, its aggregate, and then for X, Y, COLOUR and SIZE the column plus 1, or 0.
     * They stand in this order, the mark highest, so that of charts with the same cost the better is the lower number.
     */
    static final class Chart {
        private static final int MARK_SHIFT = 14;
        private static final int AGGREGATE_SHIFT = 12;
        private static final int COLUMN_BITS = 3;
        private static final int MARK_MASK = 127;
        private static final int AGGREGATE_MASK = 3;
        private static final int COLUMN_MASK = 7;
        private static final int CODES_OF_COLUMNS = 1 << AGGREGATE_SHIFT;

        static int bare(char mark, int aggregate) {
            return mark << MARK_SHIFT | aggregate << AGGREGATE_SHIFT;
        }

        static char markOf(int chart) {
            return (char) (chart >> MARK_SHIFT & MARK_MASK);
        }

        static int aggregateOf(int chart) {
            return chart >> AGGREGATE_SHIFT & AGGREGATE_MASK;
        }

        static int columnIn(int chart, int channel) {
            return (chart >> (SIZE - channel) * COLUMN_BITS & COLUMN_MASK) - 1;
        }

        static int withMark(int chart, char mark) {
            return chart & ~(MARK_MASK << MARK_SHIFT) | mark << MARK_SHIFT;
        }

        static int withAggregate(int chart, int aggregate) {
            return chart & ~(AGGREGATE_MASK << AGGREGATE_SHIFT) | aggregate << AGGREGATE_SHIFT;
        }

        static int withColumn(int chart, int channel, int column) {
            int shift = (SIZE - channel) * COLUMN_BITS;
            return chart & ~(COLUMN_MASK << shift) | column + 1 << shift;
        }

        /** The columns of a chart as a set: bit k stands for the column k. */
        static int columnSet(int chart) {
            int codes = 0;
            for (int shift = 0; shift < AGGREGATE_SHIFT; shift += COLUMN_BITS) {
                codes |= 1 << (chart >> shift & COLUMN_MASK);
            }
            return codes >> 1;
        }

        static boolean holds(int chart, int column) {
            return column != NO_COLUMN && (columnSet(chart) >> column & 1) != 0;
        }

        /** Whether a number below CODES_OF_COLUMNS puts columns that there are into channels, each only once. */
        static boolean isPlacement(int code) {
            int set = 0;
            for (int channel = 0; channel < CHANNELS; channel++) {
                int column = columnIn(code, channel);
                if (column != NO_COLUMN) {
                    if (column >= COLUMNS || (set >> column & 1) != 0) {
                        return false;
                    }
                    set |= 1 << column;
                }
            }
            return true;
        }
    }

    /** A place is one number, a chart behind its cost, so that the better of two allowed charts has the lower place. */
    static final class Place {
        private static final int CHART_BITS = 24;
        private static final long CHART_MASK = (1L << CHART_BITS) - 1;

        static long of(int cost, int chart) {
            return (long) cost << CHART_BITS | chart;
        }

        static int costOf(long place) {
            return (int) (place >> CHART_BITS);
        }

        static int chartOf(long place) {
            return (int) (place & CHART_MASK);
        }
    }

    /** The rows, the forced kinds, and what is known of each column; each change brings this up to date. */
    static final class Table {
        private static final int LEAST_TIMES = 4;
        private static final int MOST_CATEGORIES = 6;
        private static final int LEAST_REPEATS = 2;

        private final int[] values = new int[COLUMNS * MOST_ROWS];
        private final int[] forcedKinds = new int[COLUMNS];
        private final int[] kinds = new int[COLUMNS];
        private final int[] counts = new int[COLUMNS];
        private final int[] differents = new int[COLUMNS];
        private final long[] sums = new long[COLUMNS];
        private final long[] gaps = new long[COLUMNS];
        private int rowCount;

        Table() {
            for (int column = 0; column < COLUMNS; column++) {
                forcedKinds[column] = NO_KIND;
                kinds[column] = EMPTY;
            }
        }

        int rowCount() {
            return rowCount;
        }

        boolean hasRow(int row) {
            return row >= 0 && row < rowCount && row < MOST_ROWS;
        }

        int valueAt(int row, int column) {
            return hasRow(row) && isColumn(column) ? values[column * MOST_ROWS + row] : MISSING;
        }

        int kindAt(int column) {
            return column >= 0 && column < COLUMNS ? kinds[column] : NO_KIND;
        }

        int forcedKindAt(int column) {
            return isColumn(column) ? forcedKinds[column] : NO_KIND;
        }

        int countIn(int column) {
            return isColumn(column) ? counts[column] : 0;
        }

        int differentIn(int column) {
            return isColumn(column) ? differents[column] : 0;
        }

        long sumIn(int column) {
            return isColumn(column) ? sums[column] : 0;
        }

        /** The rows in which a column has no value, as a set: bit k stands for the row k. */
        long gapsIn(int column) {
            return isColumn(column) ? gaps[column] : 0;
        }

        /** Whether a column of this kind has nothing to show, so that no allowed chart has it. */
        static boolean isDullKind(int kind) {
            return kind == EMPTY || kind == CONSTANT;
        }

        int usableColumns() {
            int count = 0;
            for (int column = 0; column < COLUMNS; column++) {
                if (!isDullKind(kinds[column])) {
                    count++;
                }
            }
            return count;
        }

        void append(int a, int b, int c, int d, int e, int f) {
            if (rowCount >= MOST_ROWS) {
                return;
            }
            int row = rowCount;
            rowCount++;
            store(row, 0, a);
            store(row, 1, b);
            store(row, 2, c);
            store(row, 3, d);
            store(row, 4, e);
            store(row, 5, f);
            studyAll();
        }

        void remove(int dropped) {
            if (!hasRow(dropped)) {
                return;
            }
            for (int column = 0; column < COLUMNS; column++) {
                for (int row = dropped; row < rowCount - 1; row++) {
                    store(row, column, valueAt(row + 1, column));
                }
            }
            rowCount--;
            studyAll();
        }

        void change(int row, int column, int value) {
            store(row, column, value);
            study(column);
        }

        void setForcedKind(int column, int kind) {
            if (isColumn(column)) {
                forcedKinds[column] = kind;
                study(column);
            }
        }

        private void store(int row, int column, int value) {
            if (hasRow(row) && isColumn(column)) {
                values[column * MOST_ROWS + row] = value;
            }
        }

        private void studyAll() {
            for (int column = 0; column < COLUMNS; column++) {
                study(column);
            }
        }

        private void study(int column) {
            if (!isColumn(column)) {
                return;
            }
            int count = 0;
            int different = 0;
            long sum = 0;
            long gapRows = 0;
            boolean isRising = true;
            int last = MISSING; // below each value, so that the first value rises above it
            for (int row = 0; row < rowCount; row++) {
                int value = valueAt(row, column);
                if (value == MISSING) {
                    gapRows |= 1L << row;
                } else {
                    count++;
                    sum += value;
                    different += isNewAt(row, column) ? 1 : 0;
                    isRising = isRising && value > last;
                    last = value;
                }
            }
            counts[column] = count;
            differents[column] = different;
            sums[column] = sum;
            gaps[column] = gapRows;
            kinds[column] = kindFrom(count, different, forcedKinds[column], isRising);
        }

        private boolean isNewAt(int row, int column) {
            int value = valueAt(row, column);
            for (int earlier = 0; earlier < row; earlier++) {
                if (valueAt(earlier, column) == value) {
                    return false;
                }
            }
            return true;
        }

        private static int kindFrom(int count, int different, int forcedKind, boolean isRising) {
            if (count == 0) {
                return EMPTY;
            }
            if (different == 1) {
                return CONSTANT;
            }
            if (forcedKind != NO_KIND) {
                return forcedKind;
            }
            if (count >= LEAST_TIMES && isRising) {
                return TIME;
            }
            if (different <= MOST_CATEGORIES && count >= LEAST_REPEATS * different) {
                return CATEGORY;
            }
            return QUANTITY;
        }
    }

    /** The wishes, the forbidden pairs, and whether a chart breaks one of the hard rules. */
    static final class HardRules {
        static final int WISHES_RULE = 9;

        private final Table table;
        private int wishedSet;
        private char wishedMark;
        private int forbiddenSet;

        HardRules(Table itsTable) {
            table = itsTable;
            wishedMark = NO_MARK;
        }

        int wishColumn(int column, boolean isWished) {
            int bit = 1 << column;
            wishedSet = isWished ? wishedSet | bit : wishedSet & ~bit;
            return Integer.bitCount(wishedSet);
        }

        char exchangeWishedMark(char mark) {
            char before = wishedMark;
            wishedMark = mark;
            return before;
        }

        boolean isForbidden(int column, int channel) {
            return column != NO_COLUMN && (forbiddenSet >> column * CHANNELS + channel & 1) != 0;
        }

        /** Forbids an allowed pair, or allows a forbidden one; answers how many are forbidden then. */
        int turnForbidden(int column, int channel) {
            forbiddenSet ^= 1 << column * CHANNELS + channel;
            return Integer.bitCount(forbiddenSet);
        }

        boolean allows(int chart) {
            return firstBroken(chart) == 0;
        }

        int firstBroken(int chart) {
            char mark = Chart.markOf(chart);
            int aggregate = Chart.aggregateOf(chart);
            int x = table.kindAt(Chart.columnIn(chart, X));
            int y = table.kindAt(Chart.columnIn(chart, Y));
            int size = table.kindAt(Chart.columnIn(chart, SIZE));
            boolean hasHeight = y == QUANTITY || aggregate == COUNT;
            if (x == NO_KIND && y == NO_KIND) {
                return 1;
            }
            if (hasDullColumn(chart)) {
                return 2;
            }
            if (size != NO_KIND && !(size == QUANTITY && mark == POINTS)) {
                return 3;
            }
            if (mark == BARS && !((x == CATEGORY || x == TIME) && hasHeight)) {
                return 4;
            }
            if (mark == LINE && !((x == TIME || x == QUANTITY) && hasHeight)) {
                return 5;
            }
            if (aggregate == COUNT && y != NO_KIND) {
                return 6;
            }
            if (aggregate == MEAN && !(y == QUANTITY && (x == CATEGORY || x == TIME))) {
                return 7;
            }
            if (hasForbiddenColumn(chart)) {
                return 8;
            }
            return isAsWished(chart) ? 0 : WISHES_RULE;
        }

        boolean hasDullColumn(int chart) {
            for (int channel = 0; channel < CHANNELS; channel++) {
                if (Table.isDullKind(table.kindAt(Chart.columnIn(chart, channel)))) {
                    return true;
                }
            }
            return false;
        }

        private boolean hasForbiddenColumn(int chart) {
            for (int channel = 0; channel < CHANNELS; channel++) {
                if (isForbidden(Chart.columnIn(chart, channel), channel)) {
                    return true;
                }
            }
            return false;
        }

        private boolean isAsWished(int chart) {
            boolean hasWishedMark = wishedMark == NO_MARK || wishedMark == Chart.markOf(chart);
            return hasWishedMark && (wishedSet & ~Chart.columnSet(chart)) == 0;
        }
    }

    /** The weights of the soft rules, and what a chart costs. */
    static final class Costs {
        private static final int ROWS_FOR_ONE = 5;
        private static final int CROWD = 20;
        private static final int MANY_CHANNELS = 3;
        private static final int MANY_COLOURS = 4;
        private static final int[] FIRST_WEIGHTS = {3, 4, 2, 5, 3, 2, 6, 1};
        // what a column of a kind costs in X, Y, COLOUR and SIZE, from the kind TIME on
        private static final int[] CHANNEL_COSTS = {0, 2, 6, 0, 1, 2, 2, 0, 1, 0, 4, 3};

        private final Table table;
        private final int[] weights;

        Costs(Table itsTable) {
            table = itsTable;
            weights = FIRST_WEIGHTS.clone();
        }

        boolean hasRule(int rule) {
            return rule >= 0 && rule < weights.length;
        }

        int exchangeWeight(int rule, int weight) {
            if (!hasRule(rule)) {
                return 0;
            }
            int before = weights[rule];
            weights[rule] = weight;
            return before;
        }

        int costOf(int chart) {
            int cost = 0;
            long gapRows = 0;
            for (int channel = 0; channel < CHANNELS; channel++) {
                int column = Chart.columnIn(chart, channel);
                cost += channelCost(table.kindAt(column), channel);
                gapRows |= table.gapsIn(column);
            }
            cost += Long.bitCount(gapRows) / ROWS_FOR_ONE;
            int broken = brokenSoftRules(chart);
            for (int rule = 0; rule < weights.length; rule++) {
                if ((broken >> rule & 1) != 0) {
                    cost += weights[rule];
                }
            }
            return cost;
        }

        int brokenSoftRules(int chart) {
            char mark = Chart.markOf(chart);
            boolean isPlain = Chart.aggregateOf(chart) == NONE;
            int x = table.kindAt(Chart.columnIn(chart, X));
            int y = table.kindAt(Chart.columnIn(chart, Y));
            int colourColumn = Chart.columnIn(chart, COLOUR);
            int colour = table.kindAt(colourColumn);
            int columns = Integer.bitCount(Chart.columnSet(chart));
            int broken = 0;
            broken |= bit(0, mark == BARS && isPlain);
            broken |= bit(1, x == CATEGORY && y == CATEGORY);
            broken |= bit(2, colour == QUANTITY);
            broken |= bit(3, mark == POINTS && isPlain && table.rowCount() > CROWD);
            broken |= bit(4, mark == POINTS && !isPlain);
            broken |= bit(5, columns >= MANY_CHANNELS);
            broken |= bit(6, colour == CATEGORY && table.differentIn(colourColumn) > MANY_COLOURS);
            broken |= bit(7, x == NO_KIND || y == NO_KIND);
            return broken;
        }

        private static int bit(int rule, boolean isBroken) {
            return isBroken ? 1 << rule : 0;
        }

        private static int channelCost(int kind, int channel) {
            int at = (kind - TIME) * CHANNELS + channel;
            return at >= 0 && at < CHANNEL_COSTS.length ? CHANNEL_COSTS[at] : 0;
        }
    }

    /** The best of the places that were offered, the best one first. */
    static final class Best {
        private static final int MOST_RANKS = 5;

        private final long[] places = new long[MOST_RANKS];
        private int size;

        int size() {
            return size;
        }

        boolean hasRank(int rank) {
            return rank >= 0 && rank < size && rank < places.length;
        }

        long placeAt(int rank) {
            return hasRank(rank) ? places[rank] : 0;
        }

        int chartAt(int rank) {
            return Place.chartOf(placeAt(rank));
        }

        void clear() {
            size = 0;
        }

        boolean isOutOfReach(long place) {
            return size >= MOST_RANKS && place >= places[MOST_RANKS - 1];
        }

        void offer(long place) {
            if (isOutOfReach(place)) {
                return;
            }
            if (size < MOST_RANKS) {
                size++;
            }
            int at = size - 1;
            while (at > 0 && at < places.length && places[at - 1] > place) {
                places[at] = places[at - 1];
                at--;
            }
            if (hasRank(at)) {
                places[at] = place;
            }
        }
    }

    /** Finds the ranking, and gives up each start of a chart that cannot grow into one of the best. */
    static final class Search {
        private final HardRules hardRules;
        private final Costs costs;
        private final Best best = new Best();
        private boolean isStale = true;

        Search(HardRules itsHardRules, Costs itsCosts) {
            hardRules = itsHardRules;
            costs = itsCosts;
        }

        void spoil() {
            isStale = true;
        }

        Best ranking() {
            if (isStale) {
                best.clear();
                for (char mark : MARKS) {
                    for (int aggregate = NONE; aggregate <= MEAN; aggregate++) {
                        searchFrom(Chart.bare(mark, aggregate));
                    }
                }
                isStale = false;
            }
            return best;
        }

        private void searchFrom(int bare) {
            for (int x = NO_COLUMN; x < COLUMNS; x++) {
                int based = Chart.withColumn(bare, X, x);
                for (int y = NO_COLUMN; y < COLUMNS; y++) {
                    int axes = Chart.withColumn(based, Y, y);
                    if (x == y || isHopeless(axes)) {
                        continue;
                    }
                    for (int colour = NO_COLUMN; colour < COLUMNS; colour++) {
                        int coloured = Chart.withColumn(axes, COLOUR, colour);
                        if (!Chart.holds(axes, colour) && !isHopeless(coloured)) {
                            offerSizes(coloured);
                        }
                    }
                }
            }
        }

        private void offerSizes(int coloured) {
            for (int size = NO_COLUMN; size < COLUMNS; size++) {
                int chart = Chart.withColumn(coloured, SIZE, size);
                if (!Chart.holds(coloured, size) && hardRules.firstBroken(chart) == 0) {
                    best.offer(Place.of(costs.costOf(chart), chart));
                }
            }
        }

        // Once X and Y are settled, further columns can only fulfil wishes: they mend no other rule, and as they
        // make no chart cheaper, the place of the start is the least that can come of it.
        private boolean isHopeless(int start) {
            int broken = hardRules.firstBroken(start);
            if (broken != 0 && broken != HardRules.WISHES_RULE) {
                return true;
            }
            return best.isOutOfReach(Place.of(costs.costOf(start), start));
        }
    }

    /** Tries all charts, without the search. */
    static final class Trial {
        private static final int PLACEMENTS = 1045;

        private final HardRules hardRules;
        private final Costs costs;
        private final Best best = new Best();
        private final int[] placements;
        private int allowedCount;
        private int betterCount;

        Trial(HardRules itsHardRules, Costs itsCosts) {
            hardRules = itsHardRules;
            costs = itsCosts;
            placements = listPlacements();
        }

        Best ranking() {
            return best;
        }

        int allowedCount() {
            return allowedCount;
        }

        int countBetterThan(int chart) {
            tryAll(Place.of(costs.costOf(chart), chart));
            return betterCount;
        }

        void run() {
            tryAll(0);
        }

        private void tryAll(long compared) {
            best.clear();
            allowedCount = 0;
            betterCount = 0;
            for (int placement : placements) {
                // with a dull column the hard rule 2 is broken, whatever the mark and the aggregate are
                if (!hardRules.hasDullColumn(placement)) {
                    tryPlacement(placement, compared);
                }
            }
        }

        private void tryPlacement(int placement, long compared) {
            for (char mark : MARKS) {
                for (int aggregate = NONE; aggregate <= MEAN; aggregate++) {
                    int chart = Chart.bare(mark, aggregate) | placement;
                    if (hardRules.firstBroken(chart) == 0) {
                        long place = Place.of(costs.costOf(chart), chart);
                        allowedCount++;
                        betterCount += place < compared ? 1 : 0;
                        best.offer(place);
                    }
                }
            }
        }

        private static int[] listPlacements() {
            int[] list = new int[PLACEMENTS];
            int count = 0;
            for (int code = 0; code < Chart.CODES_OF_COLUMNS; code++) {
                if (count < list.length && Chart.isPlacement(code)) {
                    list[count] = code;
                    count++;
                }
            }
            return list;
        }
    }

    /** The pick and the former picks, the latest of them first. */
    static final class Picks {
        private static final int MOST_FORMER = 4;

        private final int[] former = new int[MOST_FORMER];
        private int formerCount;
        private int present = NO_CHART;

        boolean hasPresent() {
            return present != NO_CHART;
        }

        int present() {
            return present;
        }

        int formerCount() {
            return formerCount;
        }

        void become(int chart) {
            if (hasPresent()) {
                keepPresent();
            }
            present = chart;
        }

        void goBack() {
            if (formerCount == 0) {
                return;
            }
            present = former[0];
            formerCount--;
            for (int i = 0; i < formerCount && i + 1 < former.length; i++) {
                former[i] = former[i + 1];
            }
        }

        int dropForbidden(HardRules hardRules) {
            int kept = 0;
            for (int i = 0; i < formerCount && i < former.length; i++) {
                if (hardRules.allows(former[i])) {
                    former[kept] = former[i];
                    kept++;
                }
            }
            int dropped = formerCount - kept;
            formerCount = kept;
            return dropped;
        }

        private void keepPresent() {
            if (formerCount < MOST_FORMER) {
                formerCount++;
            }
            for (int i = formerCount - 1; i > 0 && i < former.length; i--) {
                former[i] = former[i - 1];
            }
            former[0] = present;
        }
    }
}
