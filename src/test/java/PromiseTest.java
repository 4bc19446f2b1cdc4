import java.util.Arrays;

/** Each promise of the document by hand: ordinary inputs, the edges that it names, and wrong inputs. */
public final class PromiseTest extends Checks {
    public static void main(String[] args) {
        test("constants", PromiseTest::constants);
        test("promise1NewObject", PromiseTest::promise1NewObject);
        test("promise2AddRow", PromiseTest::promise2AddRow);
        test("promise3DropRow", PromiseTest::promise3DropRow);
        test("promise4Put", PromiseTest::promise4Put);
        test("promises5To9Numbers", PromiseTest::promises5To9Numbers);
        test("promise10Kinds", PromiseTest::promise10Kinds);
        test("promise11Force", PromiseTest::promise11Force);
        test("promise12Unforce", PromiseTest::promise12Unforce);
        test("promise13Wish", PromiseTest::promise13Wish);
        test("promise14WishMark", PromiseTest::promise14WishMark);
        test("promises15And16ForbidAndAllow", PromiseTest::promises15And16ForbidAndAllow);
        test("promise17SetWeight", PromiseTest::promise17SetWeight);
        test("promise18Allowed", PromiseTest::promise18Allowed);
        test("promises19To23Ranking", PromiseTest::promises19To23Ranking);
        test("promise19Costs", PromiseTest::promise19Costs);
        test("promise20CostByTrying", PromiseTest::promise20CostByTrying);
        test("promise24SetMargin", PromiseTest::promise24SetMargin);
        test("promise25Pick", PromiseTest::promise25Pick);
        test("promises26To28ThePick", PromiseTest::promises26To28ThePick);
        test("promises29To31FormerPicks", PromiseTest::promises29To31FormerPicks);
        test("promises32To34Draft", PromiseTest::promises32To34Draft);
        test("promise35BrokenRule", PromiseTest::promise35BrokenRule);
        test("promise36SoftRules", PromiseTest::promise36SoftRules);
        test("promises37And38DraftCostAndRank", PromiseTest::promises37And38DraftCostAndRank);
        test("promise39IsSound", PromiseTest::promise39IsSound);
        finish();
    }

    // ---- the promises

    private static void constants() {
        int[] got = {Plotwise.MISSING, Plotwise.NO_COLUMN, Plotwise.EMPTY, Plotwise.CONSTANT, Plotwise.TIME,
            Plotwise.CATEGORY, Plotwise.QUANTITY, Plotwise.NONE, Plotwise.COUNT, Plotwise.MEAN, Plotwise.X,
            Plotwise.Y, Plotwise.COLOUR, Plotwise.SIZE};
        int[] want = {-10000, -1, 0, 1, 2, 3, 4, 0, 1, 2, 0, 1, 2, 3};
        due("constants", Arrays.toString(got), Arrays.toString(want));
    }

    private static void promise1NewObject() {
        Plotwise p = new Plotwise();
        due("1 rows", p.rows(), 0);
        due("1 allowed", p.allowed(), 0);
        due("1 kind", p.kindOf(0), Plotwise.EMPTY);
        dueThrow("1 no pick", p, STATE, Plotwise::pickMark);
        due("1 former picks", p.formerPicks(), 0);
        due("1 draft mark", p.draftMark('p'), 'b');
        due("1 draft aggregate", p.draftAggregate(1), 0);
        for (int channel = 0; channel < 4; channel++) {
            due("1 draft column", p.draftColumn(channel, -1), -1);
        }
        due("1 margin", p.setMargin(3), 3);
        due("1 wished mark", p.wishMark('-'), '-');
        due("1 wished columns", p.wish(0, false), 0);
        due("1 forbidden", p.forbid(0, 0), 1);
        int[] weights = {3, 4, 2, 5, 3, 2, 6, 1};
        for (int rule = 0; rule < 8; rule++) {
            due("1 weight " + rule, p.setWeight(rule, 0), weights[rule]);
        }
        Plotwise another = new Plotwise();
        due("1 objects apart", another.setWeight(0, 0), 3);
    }

    private static void promise2AddRow() {
        Plotwise p = new Plotwise();
        due("2 limits", p.addRow(-9999, 9999, GAP, 0, 1, -1), 1);
        due("2 second", p.addRow(1, 2, 3, 4, 5, 6), 2);
        int[] before = {-9999, 9999, GAP, 0, 1, -1};
        for (int column = 0; column < 6; column++) {
            due("2 value " + column, p.put(0, column, column), before[column]);
            due("2 value below " + column, p.put(1, column, 1), column + 1);
        }
        for (int bad : new int[] {10000, -10001, Integer.MAX_VALUE, Integer.MIN_VALUE}) {
            dueThrow("2 a", p, ARGUMENT, o -> o.addRow(bad, 0, 0, 0, 0, 0));
            dueThrow("2 b", p, ARGUMENT, o -> o.addRow(0, bad, 0, 0, 0, 0));
            dueThrow("2 c", p, ARGUMENT, o -> o.addRow(0, 0, bad, 0, 0, 0));
            dueThrow("2 d", p, ARGUMENT, o -> o.addRow(0, 0, 0, bad, 0, 0));
            dueThrow("2 e", p, ARGUMENT, o -> o.addRow(0, 0, 0, 0, bad, 0));
            dueThrow("2 f", p, ARGUMENT, o -> o.addRow(0, 0, 0, 0, 0, bad));
        }
        for (int row = 3; row <= 40; row++) {
            due("2 rows", p.addRow(row, 0, 0, 0, 0, 0), row);
        }
        dueThrow("2 full", p, STATE, o -> o.addRow(0, 0, 0, 0, 0, 0));
        dueThrow("2 full and wrong", p, ARGUMENT, o -> o.addRow(0, 0, 0, 0, 0, 10000));
        p.dropRow(39);
        due("2 room again", p.addRow(77, 0, 0, 0, 0, 0), 40);
        due("2 behind the others", p.put(39, 0, 0), 77);
    }

    private static void promise3DropRow() {
        Plotwise p = sample();
        dueThrow("3 below", p, INDEX, o -> o.dropRow(-1));
        dueThrow("3 behind", p, INDEX, o -> o.dropRow(6));
        due("3 drop", p.dropRow(1), 5);
        due("3 stays", p.put(0, 3, 10), 10);
        due("3 moved", p.put(1, 3, 20), 20);
        due("3 moved last", p.put(4, 4, 8), 8);
        due("3 sum", p.sumOf(3), 180L);
        due("3 last", p.dropRow(4), 4);
        due("3 sum without the last", p.sumOf(3), 120L);
        due("3 first", p.dropRow(0), 3);
        due("3 front", p.put(0, 0, 3), 3);
        p.dropRow(0);
        p.dropRow(0);
        due("3 to none", p.dropRow(0), 0);
        due("3 kind", p.kindOf(3), Plotwise.EMPTY);
        dueThrow("3 none", p, INDEX, o -> o.dropRow(0));
        p.addRow(GAP, 1, 1, 1, 1, 1);
        due("3 nothing is left behind", p.put(0, 0, 1), GAP);
    }

    private static void promise4Put() {
        Plotwise p = sample();
        due("4 before", p.put(0, 3, -9999), 10);
        due("4 changed", p.put(0, 3, 9999), -9999);
        due("4 to none", p.put(0, 3, GAP), 9999);
        due("4 from none", p.put(0, 3, 1), GAP);
        due("4 others stay", p.sumOf(3), 201L);
        due("4 last row", p.put(5, 5, 4), GAP);
        due("4 kind follows", p.kindOf(5), Plotwise.CATEGORY);
        dueThrow("4 row below", p, INDEX, o -> o.put(-1, 0, 0));
        dueThrow("4 row behind", p, INDEX, o -> o.put(6, 0, 0));
        dueThrow("4 column below", p, INDEX, o -> o.put(0, -1, 0));
        dueThrow("4 column behind", p, INDEX, o -> o.put(0, 6, 0));
        dueThrow("4 value above", p, ARGUMENT, o -> o.put(0, 0, 10000));
        dueThrow("4 value below", p, ARGUMENT, o -> o.put(0, 0, -10001));
        dueThrow("4 row first", p, INDEX, o -> o.put(6, 0, 10000));
        dueThrow("4 column first", p, INDEX, o -> o.put(0, 6, 10000));
    }

    private static void promises5To9Numbers() {
        Plotwise p = new Plotwise();
        due("5 none", p.rows(), 0);
        due("6 none", p.different(0), 0);
        due("7 none", p.sumOf(0), 0L);
        dueThrow("8 no rows", p, ARITHMETIC, o -> o.meanOf(0));
        dueThrow("9 no rows", p, ARITHMETIC, o -> o.filled(0));
        p.addRow(5, GAP, 9999, 0, 0, 0);
        p.addRow(5, GAP, 9999, 0, 0, 0);
        p.addRow(-6, GAP, GAP, 0, 0, 0);
        due("5", p.rows(), 3);
        due("6", p.different(0), 2);
        due("6 no values", p.different(1), 0);
        due("6 equal", p.different(2), 1);
        due("7", p.sumOf(0), 4L);
        due("7 gaps", p.sumOf(2), 19998L);
        due("7 no values", p.sumOf(1), 0L);
        due("8", p.meanOf(0), 4.0 / 3.0);
        due("8 gaps", p.meanOf(2), 9999.0);
        dueThrow("8 no values", p, ARITHMETIC, o -> o.meanOf(1));
        due("9 all", p.filled(0), 1.0f);
        due("9", p.filled(2), 2.0f / 3.0f);
        due("9 no values", p.filled(1), 0.0f);
        for (int bad : new int[] {-1, 6, Integer.MAX_VALUE, Integer.MIN_VALUE}) {
            dueThrow("6 column", p, INDEX, o -> o.different(bad));
            dueThrow("7 column", p, INDEX, o -> o.sumOf(bad));
            dueThrow("8 column", p, INDEX, o -> o.meanOf(bad));
            dueThrow("9 column", p, INDEX, o -> o.filled(bad));
        }
        Plotwise none = new Plotwise();
        dueThrow("8 column first", none, INDEX, o -> o.meanOf(6));
        dueThrow("9 column first", none, INDEX, o -> o.filled(-1));
    }

    private static void promise10Kinds() {
        due("10 none", withValues(GAP, GAP).kindOf(0), Plotwise.EMPTY);
        due("10 one", withValues(GAP, 4).kindOf(0), Plotwise.CONSTANT);
        due("10 equal", withValues(4, GAP, 4, 4, 4).kindOf(0), Plotwise.CONSTANT);
        due("10 three rising", withValues(1, 2, 3).kindOf(0), Plotwise.QUANTITY);
        due("10 four rising", withValues(1, 2, 3, 4).kindOf(0), Plotwise.TIME);
        due("10 rising with gaps", withValues(GAP, -9999, GAP, 2, 3, 9999, GAP).kindOf(0), Plotwise.TIME);
        due("10 not greater", withValues(1, 2, 2, 3).kindOf(0), Plotwise.QUANTITY);
        due("10 falling", withValues(4, 3, 2, 1).kindOf(0), Plotwise.QUANTITY);
        due("10 pairs", withValues(1, 2, 2, 1).kindOf(0), Plotwise.CATEGORY);
        due("10 too few repeats", withValues(1, 2, 2).kindOf(0), Plotwise.QUANTITY);
        due("10 rising pairs", withValues(1, 1, 2, 2, GAP).kindOf(0), Plotwise.CATEGORY);
        due("10 gaps are no values", withValues(1, 2, 3, 1, 2, GAP).kindOf(0), Plotwise.QUANTITY);
        due("10 six", withValues(1, 2, 3, 4, 5, 6, 1, 2, 3, 4, 5, 6).kindOf(0), Plotwise.CATEGORY);
        due("10 seven", withValues(1, 2, 3, 4, 5, 6, 7, 1, 2, 3, 4, 5, 6, 7).kindOf(0), Plotwise.QUANTITY);
        Plotwise p = sample();
        int[] kinds = {Plotwise.TIME, Plotwise.CATEGORY, Plotwise.CATEGORY, Plotwise.QUANTITY, Plotwise.QUANTITY,
            Plotwise.CONSTANT};
        for (int column = 0; column < 6; column++) {
            due("10 column " + column, p.kindOf(column), kinds[column]);
        }
        dueThrow("10 below", p, INDEX, o -> o.kindOf(-1));
        dueThrow("10 behind", p, INDEX, o -> o.kindOf(6));
    }

    private static void promise11Force() {
        Plotwise p = sample();
        due("11 category", p.force(0, Plotwise.CATEGORY), Plotwise.CATEGORY);
        due("11 in its place", p.force(0, Plotwise.QUANTITY), Plotwise.QUANTITY);
        due("11 time", p.force(3, Plotwise.TIME), Plotwise.TIME);
        due("11 kind", p.kindOf(3), Plotwise.TIME);
        due("11 constant", p.force(5, Plotwise.TIME), Plotwise.CONSTANT);
        p.put(0, 5, 9);
        due("11 no longer constant", p.kindOf(5), Plotwise.TIME);
        Plotwise none = new Plotwise();
        due("11 empty", none.force(0, Plotwise.TIME), Plotwise.EMPTY);
        none.addRow(1, 1, 1, 1, 1, 1);
        none.addRow(2, 1, 1, 1, 1, 1);
        due("11 no longer empty", none.kindOf(0), Plotwise.TIME);
        due("11 the other columns", none.kindOf(1), Plotwise.CONSTANT);
        for (int kind : new int[] {Plotwise.EMPTY, Plotwise.CONSTANT, -1, 5}) {
            dueThrow("11 kind " + kind, p, ARGUMENT, o -> o.force(1, kind));
        }
        dueThrow("11 below", p, INDEX, o -> o.force(-1, Plotwise.TIME));
        dueThrow("11 behind", p, INDEX, o -> o.force(6, Plotwise.TIME));
        dueThrow("11 column first", p, INDEX, o -> o.force(6, 0));
    }

    private static void promise12Unforce() {
        Plotwise p = sample();
        dueThrow("12 not forced", p, STATE, o -> o.unforce(0));
        p.force(0, Plotwise.CATEGORY);
        p.force(0, Plotwise.QUANTITY);
        due("12 back", p.unforce(0), Plotwise.TIME);
        dueThrow("12 twice", p, STATE, o -> o.unforce(0));
        p.force(5, Plotwise.TIME);
        due("12 constant", p.unforce(5), Plotwise.CONSTANT);
        dueThrow("12 below", p, INDEX, o -> o.unforce(-1));
        dueThrow("12 behind", p, INDEX, o -> o.unforce(6));
    }

    private static void promise13Wish() {
        Plotwise p = sample();
        due("13 first", p.wish(3, true), 1);
        due("13 again", p.wish(3, true), 1);
        due("13 second", p.wish(1, true), 2);
        due("13 best", ranked(p, 0), "1:b2 1 3 -1 -1");
        due("13 ended", p.wish(1, false), 1);
        due("13 not wished", p.wish(0, false), 1);
        due("13 none", p.wish(3, false), 0);
        p.wish(5, true);
        due("13 a constant one", p.allowed(), 0);
        dueThrow("13 below", p, INDEX, o -> o.wish(-1, true));
        dueThrow("13 behind", p, INDEX, o -> o.wish(6, false));
    }

    private static void promise14WishMark() {
        Plotwise p = sample();
        due("14 first", p.wishMark('p'), '-');
        due("14 best", p.mark(0), 'p');
        due("14 second", p.wishMark('l'), 'p');
        for (int rank = 0; rank < 5; rank++) {
            due("14 all lines", p.mark(rank), 'l');
        }
        due("14 bars", p.wishMark('b'), 'l');
        dueThrow("14 other", p, ARGUMENT, o -> o.wishMark('x'));
        dueThrow("14 zero", p, ARGUMENT, o -> o.wishMark((char) 0));
        dueThrow("14 capital", p, ARGUMENT, o -> o.wishMark('B'));
        due("14 none", p.wishMark('-'), 'b');
        due("14 none again", p.wishMark('-'), '-');
    }

    private static void promises15And16ForbidAndAllow() {
        Plotwise p = sample();
        due("15 before", p.column(0, 0), 0);
        due("15 first", p.forbid(0, 0), 1);
        due("15 best", p.column(0, 0) != 0, true);
        dueThrow("15 again", p, STATE, o -> o.forbid(0, 0));
        due("15 second", p.forbid(5, 3), 2);
        dueThrow("16 not forbidden", p, STATE, o -> o.allow(3, 1));
        due("16", p.allow(0, 0), 1);
        due("16 best", p.column(0, 0), 0);
        dueThrow("16 again", p, STATE, o -> o.allow(0, 0));
        for (int bad : new int[] {-1, 6, Integer.MAX_VALUE}) {
            dueThrow("15 column", p, INDEX, o -> o.forbid(bad, 0));
            dueThrow("16 column", p, INDEX, o -> o.allow(bad, 0));
        }
        for (int bad : new int[] {-1, 4, Integer.MIN_VALUE}) {
            dueThrow("15 channel", p, INDEX, o -> o.forbid(5, bad));
            dueThrow("16 channel", p, INDEX, o -> o.allow(5, bad));
        }
        Plotwise all = sample();
        int forbidden = 0;
        for (int column = 0; column < 6; column++) {
            for (int channel = 0; channel < 4; channel++) {
                forbidden++;
                due("15 all", all.forbid(column, channel), forbidden);
            }
        }
        due("15 nothing is left", all.allowed(), 0);
        due("16 one of all", all.allow(0, 0), 23);
        due("16 charts", all.allowed() > 0, true);
    }

    private static void promise17SetWeight() {
        Plotwise p = sample();
        int[] weights = {3, 4, 2, 5, 3, 2, 6, 1};
        for (int rule = 0; rule < 8; rule++) {
            due("17 first " + rule, p.setWeight(rule, 99), weights[rule]);
            due("17 then " + rule, p.setWeight(rule, 0), 99);
            due("17 back " + rule, p.setWeight(rule, weights[rule]), 0);
            int r = rule;
            dueThrow("17 above", p, ARGUMENT, o -> o.setWeight(r, 100));
            dueThrow("17 below", p, ARGUMENT, o -> o.setWeight(r, -1));
        }
        dueThrow("17 no rule -1", p, INDEX, o -> o.setWeight(-1, 0));
        dueThrow("17 no rule 8", p, INDEX, o -> o.setWeight(8, 0));
        dueThrow("17 rule first", p, INDEX, o -> o.setWeight(8, 100));
        draft(p, 'b', 0, 0, 3, -1, -1);
        due("17 cost before", p.draftCost(), 3);
        p.setWeight(0, 98);
        due("17 cost after", p.draftCost(), 98);
    }

    private static void promise18Allowed() {
        due("18 none", withValues().allowed(), 0);
        // one CATEGORY column: bars of X with COUNT, and points with the column in X or Y (with COUNT in X only)
        due("18 one category", withValues(1, 2, 1, 2).allowed(), 4);
        // one QUANTITY column: a line of X with COUNT, points in X or Y, points in X with COUNT
        due("18 one quantity", withValues(3, 2, 9).allowed(), 4);
        Plotwise p = sample();
        int all = p.allowed();
        p.wishMark('b');
        int bars = p.allowed();
        p.wishMark('l');
        int lines = p.allowed();
        p.wishMark('p');
        due("18 by marks", bars + lines + p.allowed(), all);
    }

    private static void promises19To23Ranking() {
        Plotwise p = sample();
        String[] ranking = {"0:b2 0 3 -1 -1", "0:b2 0 4 -1 -1", "0:l0 0 3 -1 -1", "0:l0 0 4 -1 -1",
            "0:l2 0 3 -1 -1"};
        for (int rank = 0; rank < 5; rank++) {
            due("19 to 23, rank " + rank, ranked(p, rank), ranking[rank]);
        }
        for (int bad : new int[] {-1, 5, Integer.MAX_VALUE, Integer.MIN_VALUE}) {
            dueThrow("19 rank", p, NO_ELEMENT, o -> o.cost(bad));
            dueThrow("21 rank", p, NO_ELEMENT, o -> o.mark(bad));
            dueThrow("22 rank", p, NO_ELEMENT, o -> o.aggregate(bad));
            dueThrow("23 rank", p, NO_ELEMENT, o -> o.column(bad, 0));
            dueThrow("23 rank first", p, NO_ELEMENT, o -> o.column(bad, 4));
        }
        dueThrow("23 channel below", p, INDEX, o -> o.column(0, -1));
        dueThrow("23 channel behind", p, INDEX, o -> o.column(4, 4));
        // a ranking of fewer than five
        Plotwise few = withValues(1, 2, 1, 2);
        String[] short4 = {"2:b1 0 -1 -1 -1", "2:p0 0 -1 -1 -1", "3:p0 -1 0 -1 -1", "5:p1 0 -1 -1 -1"};
        for (int rank = 0; rank < 4; rank++) {
            due("19 few, rank " + rank, ranked(few, rank), short4[rank]);
        }
        dueThrow("19 few", few, NO_ELEMENT, o -> o.cost(4));
        Plotwise none = new Plotwise();
        dueThrow("19 none", none, NO_ELEMENT, o -> o.cost(0));
        dueThrow("23 none", none, NO_ELEMENT, o -> o.column(0, 9));
    }

    private static void promise19Costs() {
        Plotwise p = sample();
        dueCost(p, "TIME in Y", 'p', 0, 3, 0, -1, -1, 1 + 2);
        dueCost(p, "TIME in COLOUR", 'p', 0, 3, 4, 0, -1, 1 + 6 + 2);
        dueCost(p, "CATEGORY in X", 'b', 2, 1, 3, -1, -1, 1);
        dueCost(p, "CATEGORY in Y", 'p', 0, 3, 1, -1, -1, 1 + 2);
        dueCost(p, "CATEGORY in COLOUR", 'p', 0, 3, 4, 1, -1, 1 + 2 + 2);
        dueCost(p, "QUANTITY in X", 'p', 0, 3, 4, -1, -1, 1);
        dueCost(p, "QUANTITY in COLOUR", 'b', 2, 1, 3, 4, -1, 1 + 4 + 2 + 2);
        dueCost(p, "QUANTITY in SIZE", 'p', 0, 0, 3, -1, 4, 3 + 2);
        dueCost(p, "two categories", 'p', 0, 1, 2, -1, -1, 1 + 2 + 4);
        dueCost(p, "four channels", 'p', 0, 0, 3, 1, 4, 2 + 3 + 2);
        dueCost(p, "points with a mean", 'p', 2, 0, 3, -1, -1, 3);
        dueCost(p, "no Y", 'l', 1, 0, -1, -1, -1, 1);
        // rows with a gap in any of the columns, divided by 5 and rounded down
        Plotwise gaps = new Plotwise();
        for (int row = 0; row < 12; row++) {
            int b = row < 3 ? GAP : row * row % 7;
            int c = row >= 2 && row < 5 ? GAP : row * 5 % 11;
            gaps.addRow(row, b, c, row % 5 * row, 1, 1);
        }
        gaps.force(1, Plotwise.QUANTITY);
        gaps.force(2, Plotwise.QUANTITY);
        dueCost(gaps, "three gaps", 'l', 0, 0, 1, -1, -1, 0);
        dueCost(gaps, "five gaps", 'p', 0, 1, 2, -1, -1, 1 + 1);
        dueCost(gaps, "five gaps in four", 'p', 0, 0, 1, -1, 2, 3 + 2 + 1);
        gaps.put(9, 1, GAP);
        gaps.put(10, 2, GAP);
        gaps.put(10, 1, GAP);
        dueCost(gaps, "seven gaps", 'p', 0, 1, 2, -1, -1, 1 + 1);
        gaps.put(11, 1, 5);
        for (int row = 5; row < 9; row++) {
            gaps.put(row, 1, GAP);
        }
        dueCost(gaps, "eleven gaps", 'p', 0, 1, 2, -1, -1, 1 + 2);
    }

    private static void dueCost(Plotwise p, String what, char mark, int aggregate, int x, int y, int colour, int size,
            int want) {
        draft(p, mark, aggregate, x, y, colour, size);
        due("cost: " + what, p.draftCost(), want);
    }

    private static void promise20CostByTrying() {
        Plotwise p = sample();
        dueThrow("20 five columns", p, UNSUPPORTED, o -> o.costByTrying(0));
        dueThrow("20 columns first", p, UNSUPPORTED, o -> o.costByTrying(9));
        Plotwise q = new Plotwise();
        for (int row = 0; row < 6; row++) {
            q.addRow(row, row % 2, row * row % 7, 7, GAP, 7);
        }
        for (int rank = 0; rank < 5; rank++) {
            due("20 rank " + rank, q.costByTrying(rank), q.cost(rank));
        }
        due("20 worth", q.costByTrying(0), 0);
        dueThrow("20 below", q, NO_ELEMENT, o -> o.costByTrying(-1));
        dueThrow("20 behind", q, NO_ELEMENT, o -> o.costByTrying(5));
        q.put(0, 3, 8);
        dueThrow("20 four columns", q, UNSUPPORTED, o -> o.costByTrying(0));
        Plotwise none = new Plotwise();
        dueThrow("20 none", none, NO_ELEMENT, o -> o.costByTrying(0));
    }

    private static void promise24SetMargin() {
        Plotwise p = sample();
        due("24 first", p.setMargin(0), 3);
        due("24 then", p.setMargin(99), 0);
        dueThrow("24 below", p, ARGUMENT, o -> o.setMargin(-1));
        dueThrow("24 above", p, ARGUMENT, o -> o.setMargin(100));
        due("24 kept", p.setMargin(3), 99);
    }

    private static void promise25Pick() {
        Plotwise none = new Plotwise();
        dueThrow("25 none", none, NO_ELEMENT, Plotwise::pick);
        Plotwise p = sample();
        due("25 first", p.pick(), true);
        due("25 the best", picked(p), "b2 0 3 -1 -1");
        due("25 stays", p.pick(), false);
        // the pick keeps its place while it costs no more than the best one plus the margin
        p.setWeight(5, 3);
        p.forbid(0, 0);
        due("25 not allowed", p.pick(), true);
        due("25 next best", picked(p), "b2 1 3 -1 -1");
        p.allow(0, 0);
        p.setMargin(0);
        p.setMargin(1);
        due("25 at the margin", p.pick(), false);
        due("25 not the best", picked(p), "b2 1 3 -1 -1");
        p.setMargin(0);
        due("25 past the margin", p.pick(), true);
        due("25 the best again", picked(p), "b2 0 3 -1 -1");
        p.wish(5, true);
        dueThrow("25 nothing allowed", p, NO_ELEMENT, Plotwise::pick);
        due("25 kept", picked(p), "b2 0 3 -1 -1");
    }

    private static void promises26To28ThePick() {
        Plotwise p = sample();
        dueThrow("26 none", p, STATE, Plotwise::pickMark);
        dueThrow("27 none", p, STATE, Plotwise::pickAggregate);
        dueThrow("28 none", p, STATE, o -> o.pickColumn(0));
        dueThrow("28 channel first", p, INDEX, o -> o.pickColumn(4));
        p.wishMark('p');
        p.wish(1, true);
        p.wish(3, true);
        p.wish(4, true);
        p.pick();
        String best = p.mark(0) + "" + p.aggregate(0) + " " + p.column(0, 0) + " " + p.column(0, 1) + " "
                + p.column(0, 2) + " " + p.column(0, 3);
        due("26 to 28", picked(p), best);
        due("26", p.pickMark(), 'p');
        dueThrow("28 below", p, INDEX, o -> o.pickColumn(-1));
        dueThrow("28 behind", p, INDEX, o -> o.pickColumn(4));
        p.wishMark('b');
        due("26 to 28 not allowed now", picked(p), best);
        while (p.rows() > 0) {
            p.dropRow(0);
        }
        due("26 to 28 no rows", picked(p), best);
    }

    private static void promises29To31FormerPicks() {
        Plotwise p = sample();
        dueThrow("30 none", p, STATE, Plotwise::unpick);
        p.pick();
        due("29 none yet", p.formerPicks(), 0);
        dueThrow("30 only the pick", p, STATE, Plotwise::unpick);
        String[] picks = new String[7];
        picks[0] = picked(p);
        for (int i = 1; i < 7; i++) {
            p.wishMark("blp".charAt(i % 3));
            due("29 another", p.pick(), true);
            picks[i] = picked(p);
            due("29 kept " + i, p.formerPicks(), Math.min(i, 4));
        }
        for (int i = 5; i >= 2; i--) {
            due("30 left", p.unpick(), i - 2);
            due("30 back", picked(p), picks[i]);
        }
        dueThrow("30 no more", p, STATE, Plotwise::unpick);
        p.wishMark('-');

        Plotwise q = sample();
        due("31 none", q.forget(), 0);
        for (char mark : new char[] {'b', 'l', 'p', 'b', 'l'}) {
            q.wishMark(mark);
            q.pick();
        }
        due("31 before", q.formerPicks(), 4);
        q.wishMark('b');
        due("31 lines and points", q.forget(), 2);
        due("31 left", q.formerPicks(), 2);
        due("31 the pick stays", q.pickMark(), 'l');
        due("31 again", q.forget(), 0);
        due("31 back", q.unpick(), 1);
        due("31 mark", q.pickMark(), 'b');
        q.wishMark('p');
        due("31 all", q.forget(), 1);
        due("31 none left", q.formerPicks(), 0);
        due("31 a pick that is not allowed", q.pickMark(), 'b');
    }

    private static void promises32To34Draft() {
        Plotwise p = sample();
        due("32 line", p.draftMark('l'), 'b');
        due("32 points", p.draftMark('p'), 'l');
        due("32 bars", p.draftMark('b'), 'p');
        dueThrow("32 none", p, ARGUMENT, o -> o.draftMark('-'));
        dueThrow("32 other", p, ARGUMENT, o -> o.draftMark((char) 226));
        due("33 mean", p.draftAggregate(2), 0);
        due("33 count", p.draftAggregate(1), 2);
        due("33 none", p.draftAggregate(0), 1);
        dueThrow("33 below", p, ARGUMENT, o -> o.draftAggregate(-1));
        dueThrow("33 above", p, ARGUMENT, o -> o.draftAggregate(3));
        due("34 X", p.draftColumn(0, 5), -1);
        due("34 the same", p.draftColumn(0, 5), 5);
        dueThrow("34 another channel", p, STATE, o -> o.draftColumn(3, 5));
        due("34 another column", p.draftColumn(0, 0), 5);
        due("34 free again", p.draftColumn(3, 5), -1);
        due("34 Y", p.draftColumn(1, 3), -1);
        due("34 COLOUR", p.draftColumn(2, 1), -1);
        dueThrow("34 Y is there", p, STATE, o -> o.draftColumn(2, 3));
        due("34 take", p.draftColumn(3, -1), 5);
        due("34 take nothing", p.draftColumn(3, -1), -1);
        due("34 mark and aggregate stay", p.draftMark('b') + "" + p.draftAggregate(0), "b0");
        due("34 the others stay", p.draftColumn(0, 0) + " " + p.draftColumn(1, 3) + " " + p.draftColumn(2, 1), "0 3 1");
        dueThrow("34 channel below", p, INDEX, o -> o.draftColumn(-1, 0));
        dueThrow("34 channel behind", p, INDEX, o -> o.draftColumn(4, 0));
        dueThrow("34 column below", p, INDEX, o -> o.draftColumn(3, -2));
        dueThrow("34 column behind", p, INDEX, o -> o.draftColumn(3, 6));
        dueThrow("34 channel first", p, INDEX, o -> o.draftColumn(4, 3));
    }

    private static void promise35BrokenRule() {
        Plotwise p = sample();
        dueRule(p, "no columns", 'b', 0, -1, -1, -1, -1, 1);
        dueRule(p, "only COLOUR, CONSTANT", 'p', 0, -1, -1, 5, -1, 1);
        dueRule(p, "CONSTANT in X", 'b', 0, 5, 3, -1, -1, 2);
        dueRule(p, "CONSTANT in SIZE", 'b', 0, 0, 3, -1, 5, 2);
        dueRule(p, "SIZE with bars", 'b', 0, 0, 3, -1, 4, 3);
        dueRule(p, "SIZE with a line", 'l', 0, 0, 3, -1, 4, 3);
        dueRule(p, "SIZE of categories", 'p', 0, 0, 3, -1, 1, 3);
        dueRule(p, "SIZE of points", 'p', 0, 0, 3, -1, 4, 0);
        dueRule(p, "bars over a quantity", 'b', 0, 3, 4, -1, -1, 4);
        dueRule(p, "bars without height", 'b', 0, 1, 2, -1, -1, 4);
        dueRule(p, "bars without X", 'b', 1, -1, 3, -1, -1, 4);
        dueRule(p, "bars over time", 'b', 0, 0, 3, -1, -1, 0);
        dueRule(p, "bars over categories", 'b', 1, 1, -1, -1, -1, 0);
        dueRule(p, "bars with COUNT and Y", 'b', 1, 1, 3, -1, -1, 6);
        dueRule(p, "line over categories", 'l', 0, 1, 3, -1, -1, 5);
        dueRule(p, "line without height", 'l', 0, 0, 1, -1, -1, 5);
        dueRule(p, "line over time", 'l', 0, 0, 3, -1, -1, 0);
        dueRule(p, "line over a quantity", 'l', 1, 3, -1, -1, -1, 0);
        dueRule(p, "line with COUNT and Y", 'l', 1, 3, 4, -1, -1, 6);
        dueRule(p, "COUNT with Y", 'p', 1, 3, 1, -1, -1, 6);
        dueRule(p, "MEAN over a quantity", 'p', 2, 3, 4, -1, -1, 7);
        dueRule(p, "MEAN of categories", 'p', 2, 1, 2, -1, -1, 7);
        dueRule(p, "MEAN without Y", 'p', 2, 1, -1, -1, -1, 7);
        dueRule(p, "MEAN", 'p', 2, 1, 3, -1, -1, 0);
        p.forbid(3, 1);
        dueRule(p, "forbidden", 'b', 0, 0, 3, -1, -1, 8);
        dueRule(p, "forbidden elsewhere", 'p', 0, 3, 4, -1, -1, 0);
        p.forbid(2, 2);
        dueRule(p, "forbidden COLOUR", 'l', 0, 0, 4, 2, -1, 8);
        p.forbid(4, 3);
        dueRule(p, "forbidden SIZE", 'p', 0, 0, 1, -1, 4, 8);
        p.wish(4, true);
        dueRule(p, "not in it", 'b', 1, 0, -1, -1, -1, 9);
        dueRule(p, "in Y", 'b', 0, 0, 4, -1, -1, 0);
        dueRule(p, "in COLOUR", 'p', 0, 0, -1, 4, -1, 0);
        p.wishMark('p');
        dueRule(p, "another mark", 'b', 0, 0, 4, -1, -1, 9);
        dueRule(p, "the mark", 'p', 0, 0, 4, -1, -1, 0);
        dueRule(p, "forbidden before wishes", 'b', 0, 0, 3, -1, -1, 8);
        dueRule(new Plotwise(), "EMPTY", 'b', 0, 0, -1, -1, -1, 2);
    }

    private static void dueRule(Plotwise p, String what, char mark, int aggregate, int x, int y, int colour, int size,
            int want) {
        draft(p, mark, aggregate, x, y, colour, size);
        due("35 " + what, p.brokenRule(), want);
    }

    private static void promise36SoftRules() {
        Plotwise p = sample();
        dueSoft(p, "bars as they are", 'b', 0, 0, 3, -1, -1, 1);
        dueSoft(p, "bars with a mean", 'b', 2, 0, 3, -1, -1, 0);
        dueSoft(p, "two categories", 'p', 0, 1, 2, -1, -1, 2);
        dueSoft(p, "COLOUR of a quantity", 'l', 0, 0, -1, 4, -1, 4 + 128);
        dueSoft(p, "points with COUNT", 'p', 1, 0, -1, -1, -1, 16 + 128);
        dueSoft(p, "points with a mean", 'p', 2, 1, 3, -1, -1, 16);
        dueSoft(p, "three channels", 'l', 0, 0, 3, 1, -1, 32);
        dueSoft(p, "three channels without Y", 'p', 0, 0, -1, 1, 4, 32 + 128);
        dueSoft(p, "two channels without X", 'l', 0, -1, 3, 1, -1, 128);
        dueSoft(p, "four channels", 'p', 0, 0, 3, 1, 4, 32);
        dueSoft(p, "nothing", 'b', 0, -1, -1, -1, -1, 1 + 128);
        dueSoft(p, "CONSTANT columns", 'l', 0, 5, 3, -1, -1, 0);
        p.force(3, Plotwise.CATEGORY);
        dueSoft(p, "six colours", 'l', 0, 0, 4, 3, -1, 32 + 64);
        p.put(0, 3, 60);
        dueSoft(p, "five colours", 'l', 0, 0, 4, 3, -1, 32 + 64);
        p.put(1, 3, 60);
        dueSoft(p, "four colours", 'l', 0, 0, 4, 3, -1, 32);
        Plotwise many = new Plotwise();
        for (int row = 1; row <= 20; row++) {
            many.addRow(row, row * row % 19, GAP, GAP, GAP, GAP);
        }
        dueSoft(many, "20 rows", 'p', 0, 0, 1, -1, -1, 0);
        many.addRow(GAP, GAP, GAP, GAP, GAP, GAP);
        dueSoft(many, "21 rows", 'p', 0, 0, 1, -1, -1, 8);
        dueSoft(many, "21 rows with a mean", 'p', 2, 0, 1, -1, -1, 16);
        dueSoft(many, "21 rows of a line", 'l', 0, 0, 1, -1, -1, 0);
    }

    private static void dueSoft(Plotwise p, String what, char mark, int aggregate, int x, int y, int colour, int size,
            int want) {
        draft(p, mark, aggregate, x, y, colour, size);
        due("36 " + what, p.softRules(), want);
    }

    private static void promises37And38DraftCostAndRank() {
        Plotwise p = sample();
        dueThrow("37 not allowed", p, STATE, Plotwise::draftCost);
        dueThrow("38 not allowed", p, STATE, Plotwise::draftRank);
        for (int rank = 0; rank < 5; rank++) {
            draft(p, p.mark(rank), p.aggregate(rank), p.column(rank, 0), p.column(rank, 1), p.column(rank, 2),
                    p.column(rank, 3));
            due("37 rank " + rank, p.draftCost(), p.cost(rank));
            due("38 rank " + rank, p.draftRank(), rank);
        }
        // the charts ahead of a draft grow by one for each step of the order
        Plotwise few = withValues(1, 2, 1, 2);
        draft(few, 'p', 1, 0, -1, -1, -1);
        due("37 the last", few.draftCost(), 5);
        due("38 the last", few.draftRank(), 3);
        draft(few, 'b', 1, 0, -1, -1, -1);
        due("38 the first", few.draftRank(), 0);
        few.wishMark('p');
        dueThrow("37 not wished", few, STATE, Plotwise::draftCost);
        dueThrow("38 not wished", few, STATE, Plotwise::draftRank);
    }

    private static void promise39IsSound() {
        due("39 none", new Plotwise().isSound(), true);
        Plotwise p = sample();
        due("39", p.isSound(), true);
        p.wish(1, true);
        p.setWeight(2, 99);
        p.setWeight(5, 0);
        due("39 after changes", p.isSound(), true);
        p.wish(5, true);
        due("39 nothing allowed", p.isSound(), true);
    }
}
