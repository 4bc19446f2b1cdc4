/** The boundary cases of the promises 1 to 12, with the terms "Table" and "Kinds": each sentence has its own test. */
public final class TableBoundaryTest extends Checks {
    public static void main(String[] args) {
        newObject();
        rowsAtTheEdge();
        refusedRows();
        droppedRows();
        changedValues();
        refusedPuts();
        numbers();
        refusedNumbers();
        emptyAndConstant();
        times();
        categories();
        theOrderOfValues();
        forcedKinds();
        refusedKinds();
        finish();
    }

    private static final int[] KINDS = {TIME, CATEGORY, QUANTITY};

    private static int kindOf(int... values) {
        return withValues(values).kindOf(0);
    }

    // ---- promise 1

    private static void newObject() {
        test("1: a new table has no rows", () -> due(new Plotwise().rows(), 0));
        test("1: a new table has no values", () -> {
            Plotwise p = new Plotwise();
            for (int c = 0; c < 6; c++) {
                due(join(p.different(c), (int) p.sumOf(c), p.kindOf(c)), join(0, 0, EMPTY));
            }
        });
        test("1: the new draft", () -> due(drafted(new Plotwise()), "b0 -1 -1 -1 -1"));
        test("1: no column is wished for", () -> {
            Plotwise p = new Plotwise();
            due(p.wish(0, false), 0);
            for (int c = 0; c < 6; c++) {
                due(p.wish(c, true), c + 1);
            }
        });
        test("1: no mark is wished for", () -> due(new Plotwise().wishMark('b'), '-'));
        test("1: no pair is forbidden", () -> {
            Plotwise p = new Plotwise();
            for (int i = 0; i < 24; i++) {
                due(p.forbid(i / 4, i % 4), i + 1);
            }
        });
        test("1: the weights at first", () -> {
            int[] weights = {3, 4, 2, 5, 3, 2, 6, 1};
            Plotwise p = new Plotwise();
            for (int rule = 0; rule < 8; rule++) {
                due(p.setWeight(rule, 9), weights[rule]);
            }
        });
        test("1: the margin at first", () -> due(new Plotwise().setMargin(0), 3));
        test("1: there is no pick and no former pick at first", () -> {
            Plotwise p = new Plotwise();
            dueThrow("pickMark()", p, STATE, Plotwise::pickMark);
            due(p.formerPicks(), 0);
        });
        test("1: one object changes nothing in another", () -> {
            Plotwise first = new Plotwise();
            kept(rich());
            dueAlike(first, new Plotwise());
        });
    }

    // ---- promise 2

    private static void rowsAtTheEdge() {
        test("2: the first row is the row 0", () -> {
            Plotwise p = new Plotwise();
            due(p.addRow(8, 8, 8, 8, 8, 8), 1);
            due(p.put(0, 0, 0), 8);
        });
        test("2: rows are counted up to the 40th", () -> {
            Plotwise p = new Plotwise();
            for (int i = 1; i <= 40; i++) {
                due(p.addRow(i, i, i, i, i, i), i);
            }
            due(p.rows(), 40);
            for (int i = 1; i <= 40; i++) {
                due(p.put(i - 1, 5, 0), i);
            }
        });
        test("2: -9999 is taken in each column", () -> {
            Plotwise p = new Plotwise();
            due(p.addRow(-9999, -9999, -9999, -9999, -9999, -9999), 1);
            for (int c = 0; c < 6; c++) {
                due(p.put(0, c, 0), -9999);
            }
        });
        test("2: 9999 is taken in each column", () -> {
            Plotwise p = new Plotwise();
            due(p.addRow(9999, 9999, 9999, 9999, 9999, 9999), 1);
            for (int c = 0; c < 6; c++) {
                due(p.put(0, c, 0), 9999);
            }
        });
        test("2: MISSING is taken in each column, and is no value", () -> {
            Plotwise p = new Plotwise();
            due(p.addRow(GAP, GAP, GAP, GAP, GAP, GAP), 1);
            for (int c = 0; c < 6; c++) {
                due(p.put(0, c, GAP), GAP);
                due(join(p.different(c), (int) p.sumOf(c), p.kindOf(c)), join(0, 0, EMPTY));
            }
        });
        test("2: 0 is a value", () -> {
            Plotwise p = new Plotwise();
            p.addRow(0, 0, 0, 0, 0, 0);
            for (int c = 0; c < 6; c++) {
                due(join(p.different(c), (int) p.sumOf(c), p.kindOf(c)), join(1, 0, CONSTANT));
            }
        });
        test("2: each value goes to its column", () -> {
            Plotwise p = new Plotwise();
            p.addRow(1, 2, 3, 4, 5, 6);
            for (int c = 0; c < 6; c++) {
                due(p.sumOf(c), c + 1L);
            }
        });
        test("2: after a drop, a full table takes one more row", () -> {
            Plotwise p = tall(40);
            due(p.dropRow(0), 39);
            due(p.addRow(77, 1, 1, 1, 1, 1), 40);
            due(p.put(39, 0, 0), 77);
            dueThrow("the next", p, STATE, q -> q.addRow(0, 0, 0, 0, 0, 0));
        });
    }

    private static void refusedRows() {
        for (int bad : NO_VALUES) {
            refused("2: " + bad + " for a", ARGUMENT, Checks::rich, p -> p.addRow(bad, 0, 0, 0, 0, 0));
            refused("2: " + bad + " for b", ARGUMENT, Checks::rich, p -> p.addRow(0, bad, 0, 0, 0, 0));
            refused("2: " + bad + " for c", ARGUMENT, Checks::rich, p -> p.addRow(0, 0, bad, 0, 0, 0));
            refused("2: " + bad + " for d", ARGUMENT, Checks::rich, p -> p.addRow(0, 0, 0, bad, 0, 0));
            refused("2: " + bad + " for e", ARGUMENT, Checks::rich, p -> p.addRow(0, 0, 0, 0, bad, 0));
            refused("2: " + bad + " for f", ARGUMENT, Checks::rich, p -> p.addRow(0, 0, 0, 0, 0, bad));
        }
        refused("2: a 41st row", STATE, () -> tall(40), p -> p.addRow(0, 0, 0, 0, 0, 0));
        refused("2: a 41st row without values", STATE, () -> tall(40), p -> p.addRow(GAP, GAP, GAP, GAP, GAP, GAP));
        refused("2: a wrong value is told before the full table", ARGUMENT, () -> tall(40),
                p -> p.addRow(0, 0, 0, 0, 0, 10000));
    }

    // ---- promises 3 to 5

    private static String firstColumn(Plotwise p) {
        StringBuilder s = new StringBuilder();
        for (int row = 0; row < p.rows(); row++) {
            s.append(p.put(row, 0, 0)).append(' ');
        }
        return s.toString();
    }

    private static void droppedRows() {
        test("3: the first row", () -> {
            Plotwise p = withValues(5, 6, 7);
            due(p.dropRow(0), 2);
            due(firstColumn(p), "6 7 ");
        });
        test("3: a row in the middle", () -> {
            Plotwise p = withValues(5, 6, 7);
            due(p.dropRow(1), 2);
            due(firstColumn(p), "5 7 ");
        });
        test("3: the last row", () -> {
            Plotwise p = withValues(5, 6, 7);
            due(p.dropRow(2), 2);
            due(firstColumn(p), "5 6 ");
        });
        test("3: the only row", () -> {
            Plotwise p = withValues(5);
            due(p.dropRow(0), 0);
            due(p.rows(), 0);
            dueAlike(p, new Plotwise());
        });
        test("3: the last of 40 rows", () -> {
            Plotwise p = tall(40);
            due(p.dropRow(39), 39);
            dueAlike(p, tall(39));
        });
        test("3: the first of 40 rows; the others get numbers that are lower by 1", () -> {
            Plotwise p = tall(40);
            due(p.dropRow(0), 39);
            for (int row = 0; row < 39; row++) {
                due(p.put(row, 3, 0), 9998 - row);
            }
        });
        test("3: all columns move", () -> {
            Plotwise p = new Plotwise();
            p.addRow(9, 9, 9, 9, 9, 9);
            p.addRow(1, 2, 3, 4, 5, GAP);
            p.dropRow(0);
            for (int c = 0; c < 5; c++) {
                due(p.put(0, c, 0), c + 1);
            }
            due(p.put(0, 5, 0), GAP);
        });
        test("3: a row added after a drop has its own values alone", () -> {
            Plotwise p = withValues(5, 6);
            p.dropRow(1);
            p.addRow(GAP, 1, 1, 1, 1, 1);
            due(p.put(1, 0, 0), GAP);
        });
        test("5: rows follow addRow and dropRow", () -> {
            Plotwise p = new Plotwise();
            due(p.rows(), 0);
            p.addRow(GAP, GAP, GAP, GAP, GAP, GAP);
            due(p.rows(), 1);
            p.dropRow(0);
            due(p.rows(), 0);
        });
        for (int bad : new int[] {-1, 6, MIN, MAX}) {
            refused("3: no row " + bad, INDEX, Checks::rich, p -> p.dropRow(bad));
        }
        refused("3: no row 0 in an empty table", INDEX, Plotwise::new, p -> p.dropRow(0));
        refused("3: no row 40 in a full table", INDEX, () -> tall(40), p -> p.dropRow(40));
        refused("3: no row that was dropped", INDEX, () -> {
            Plotwise p = withValues(1, 2);
            p.dropRow(0);
            return p;
        }, p -> p.dropRow(1));
    }

    private static void changedValues() {
        test("4: the first row and the first column", () -> {
            Plotwise p = sample();
            due(p.put(0, 0, -8), 1);
            due(p.put(0, 0, 0), -8);
        });
        test("4: the last row and the last column", () -> {
            Plotwise p = sample();
            due(p.put(5, 5, 7), GAP);
            due(p.put(5, 5, 0), 7);
        });
        test("4: the row 39 of a full table", () -> {
            Plotwise p = tall(40);
            due(p.put(39, 5, 7), GAP);
            due(p.sumOf(5), 7L);
        });
        test("4: -9999 is taken", () -> {
            Plotwise p = sample();
            p.put(2, 3, -9999);
            due(p.put(2, 3, 0), -9999);
        });
        test("4: 9999 is taken", () -> {
            Plotwise p = sample();
            p.put(2, 3, 9999);
            due(p.put(2, 3, 0), 9999);
        });
        test("4: MISSING is taken, and takes the value away", () -> {
            Plotwise p = sample();
            due(p.put(2, 3, GAP), 20);
            due(p.sumOf(3), 190L);
            due(p.different(3), 5);
            due(p.put(2, 3, GAP), GAP);
        });
        test("4: the same value changes nothing", () -> {
            Plotwise p = rich();
            due(p.put(2, 3, 20), 20);
            dueAlike(p, rich());
        });
        test("4: no other value is changed", () -> {
            Plotwise p = sample();
            p.put(2, 3, 21);
            p.put(2, 3, 20);
            dueAlike(p, sample());
        });
        test("4: the kind follows the values", () -> {
            Plotwise p = withValues(1, 1);
            due(p.kindOf(0), CONSTANT);
            p.put(1, 0, 2);
            due(p.kindOf(0), QUANTITY);
            p.put(0, 0, GAP);
            due(p.kindOf(0), CONSTANT);
            p.put(1, 0, GAP);
            due(p.kindOf(0), EMPTY);
        });
    }

    private static void refusedPuts() {
        for (int bad : new int[] {-1, 6, MIN, MAX}) {
            refused("4: no row " + bad, INDEX, Checks::rich, p -> p.put(bad, 0, 0));
            refused("4: no column " + bad, INDEX, Checks::rich, p -> p.put(0, bad, 0));
            refused("4: no row and no column " + bad, INDEX, Checks::rich, p -> p.put(bad, bad, 0));
            refused("4: no row " + bad + " is told before a wrong value", INDEX, Checks::rich,
                    p -> p.put(bad, 0, 10000));
            refused("4: no column " + bad + " is told before a wrong value", INDEX, Checks::rich,
                    p -> p.put(0, bad, -10001));
        }
        for (int bad : NO_VALUES) {
            refused("4: no value " + bad, ARGUMENT, Checks::rich, p -> p.put(5, 3, bad));
            refused("4: no value " + bad + " where there is none", ARGUMENT, Checks::rich, p -> p.put(5, 5, bad));
        }
        refused("4: no row 0 in an empty table", INDEX, Plotwise::new, p -> p.put(0, 0, 0));
        refused("4: no row 40 in a full table", INDEX, () -> tall(40), p -> p.put(40, 0, 0));
    }

    // ---- promises 6 to 9

    private static void numbers() {
        test("6: no values", () -> due(withValues(GAP, GAP).different(0), 0));
        test("6: one value", () -> due(withValues(GAP, 0).different(0), 1));
        test("6: equal values count once, wherever they stand", () ->
            due(withValues(3, 1, 3, GAP, 2, 1, GAP, 3).different(0), 3));
        test("6: -9999 and MISSING are told apart", () -> due(withValues(-9999, GAP, -9999).different(0), 1));
        test("6: 40 different values", () -> due(tall(40).different(3), 40));
        test("7: no values", () -> due(withValues(GAP).sumOf(0), 0L));
        test("7: values that cancel out", () -> due(withValues(-9999, GAP, 9999).sumOf(0), 0L));
        test("7: the greatest sum", () -> {
            Plotwise p = tall(40);
            for (int row = 0; row < 40; row++) {
                p.put(row, 5, 9999);
            }
            due(p.sumOf(5), 399960L);
        });
        test("7: the least sum", () -> {
            Plotwise p = tall(40);
            for (int row = 0; row < 40; row++) {
                p.put(row, 5, -9999);
            }
            due(p.sumOf(5), -399960L);
        });
        test("8: one value", () -> due(withValues(GAP, -7).meanOf(0), -7.0));
        test("8: the mean of the values, not of the rows", () -> due(withValues(5, GAP, 6, GAP).meanOf(0), 5.5));
        test("8: a mean that is not whole", () -> due(withValues(1, 1, 0).meanOf(0), 2.0 / 3.0));
        test("8: a mean below 0", () -> due(withValues(-1, -1, 0).meanOf(0), -2.0 / 3.0));
        test("8: a mean of 0", () -> due(withValues(0, 0).meanOf(0), 0.0));
        test("9: no row has a value", () -> due(withValues(GAP, GAP).filled(0), 0.0f));
        test("9: each row has a value", () -> due(tall(40).filled(0), 1.0f));
        test("9: one row of 40", () -> {
            Plotwise p = tall(40);
            p.put(39, 5, 0);
            due(p.filled(5), 1.0f / 40.0f);
        });
        test("9: a share that float rounds", () -> due(withValues(0, GAP, GAP).filled(0), 1.0f / 3.0f));
        test("6 to 10: the columns 0 and 5 are taken", () -> {
            Plotwise p = new Plotwise();
            p.addRow(4, 0, 0, 0, 0, 9);
            due(p.different(0) + " " + p.sumOf(0) + " " + p.meanOf(0) + " " + p.filled(0) + " " + p.kindOf(0),
                "1 4 4.0 1.0 1");
            due(p.different(5) + " " + p.sumOf(5) + " " + p.meanOf(5) + " " + p.filled(5) + " " + p.kindOf(5),
                "1 9 9.0 1.0 1");
        });
    }

    private static void refusedNumbers() {
        for (int bad : NO_COLUMNS) {
            refused("6: no column " + bad, INDEX, Checks::rich, p -> p.different(bad));
            refused("7: no column " + bad, INDEX, Checks::rich, p -> p.sumOf(bad));
            refused("8: no column " + bad, INDEX, Checks::rich, p -> p.meanOf(bad));
            refused("9: no column " + bad, INDEX, Checks::rich, p -> p.filled(bad));
            refused("10: no column " + bad, INDEX, Checks::rich, p -> p.kindOf(bad));
            refused("8: no column " + bad + " is told before no values", INDEX, Plotwise::new, p -> p.meanOf(bad));
            refused("9: no column " + bad + " is told before no rows", INDEX, Plotwise::new, p -> p.filled(bad));
        }
        refused("8: a column without values", ARITHMETIC, Checks::oneOfEach, p -> p.meanOf(5));
        refused("8: a table without rows", ARITHMETIC, Plotwise::new, p -> p.meanOf(0));
        refused("9: a table without rows", ARITHMETIC, Plotwise::new, p -> p.filled(0));
        refused("9: a table whose rows were dropped", ARITHMETIC, () -> {
            Plotwise p = withValues(1);
            p.dropRow(0);
            return p;
        }, p -> p.filled(0));
        refused("8: a column whose values were taken away", ARITHMETIC, () -> {
            Plotwise p = withValues(1);
            p.put(0, 0, GAP);
            return p;
        }, p -> p.meanOf(0));
    }

    // ---- promise 10

    private static void emptyAndConstant() {
        test("10: EMPTY in rows without values", () -> due(kindOf(GAP, GAP, GAP, GAP), EMPTY));
        test("10: one value is CONSTANT", () -> due(kindOf(GAP, GAP, 3, GAP), CONSTANT));
        test("10: four equal values are CONSTANT", () -> due(kindOf(3, 3, GAP, 3, 3), CONSTANT));
        test("10: 40 equal values are CONSTANT", () -> due(tall(40).kindOf(4), CONSTANT));
        test("10: -9999 alone is CONSTANT", () -> due(kindOf(-9999, -9999), CONSTANT));
        test("10: one other value, and it is not CONSTANT", () -> due(kindOf(3, 3, 4, 3), CATEGORY));
    }

    private static void times() {
        test("10: 4 rising values are TIME", () -> due(kindOf(1, 2, 3, 4), TIME));
        test("10: 3 rising values are not", () -> due(kindOf(1, 2, 3), QUANTITY));
        test("10: 3 rising values and a gap are not", () -> due(kindOf(1, 2, GAP, 3), QUANTITY));
        test("10: gaps ahead, between and behind do not matter", () ->
            due(kindOf(GAP, 1, GAP, 2, 3, GAP, GAP, 4, GAP), TIME));
        test("10: from -9999 to 9999", () -> due(kindOf(-9999, -9998, 9998, 9999), TIME));
        test("10: 40 rising values", () -> due(tall(40).kindOf(0), TIME));
        test("10: equal values at the begin are not TIME", () -> due(kindOf(1, 1, 2, 3, 4), QUANTITY));
        test("10: equal values in the middle are not TIME", () -> due(kindOf(1, 2, 2, 3, 4), QUANTITY));
        test("10: equal values at the end are not TIME", () -> due(kindOf(1, 2, 3, 4, 4), QUANTITY));
        test("10: equal values across a gap are not TIME", () -> due(kindOf(1, 2, GAP, 2, 3, 4), QUANTITY));
        test("10: a last value that falls is not TIME", () -> due(kindOf(1, 2, 3, 4, 0), QUANTITY));
        test("10: a second value that falls is not TIME", () -> due(kindOf(2, 1, 3, 4, 5), QUANTITY));
        test("10: each value is compared with the one before, not with the first", () ->
            due(kindOf(1, 5, 3, 6, 7), QUANTITY));
    }

    private static void categories() {
        test("10: 6 different values, twice", () ->
            due(kindOf(1, 2, 3, 4, 5, 6, 6, 5, 4, 3, 2, 1), CATEGORY));
        test("10: 7 different values, twice", () ->
            due(kindOf(1, 2, 3, 4, 5, 6, 7, 7, 6, 5, 4, 3, 2, 1), QUANTITY));
        test("10: 6 different values, one too few", () ->
            due(kindOf(1, 2, 3, 4, 5, 6, 6, 5, 4, 3, 2), QUANTITY));
        test("10: 6 different values, one too few and a gap", () ->
            due(kindOf(1, 2, 3, 4, 5, 6, 6, 5, 4, 3, 2, GAP), QUANTITY));
        test("10: 7 different values in 40 rows", () -> {
            Plotwise p = tall(40);
            for (int row = 0; row < 40; row++) {
                p.put(row, 5, row % 7);
            }
            due(p.kindOf(5), QUANTITY);
        });
        test("10: 2 different values in 4", () -> due(kindOf(1, 1, 1, 2), CATEGORY));
        test("10: 2 different values in 3", () -> due(kindOf(1, 1, 2), QUANTITY));
        test("10: 2 values", () -> due(kindOf(1, 2), QUANTITY));
        test("10: 4 values that fall", () -> due(kindOf(4, 3, 2, 1), QUANTITY));
    }

    private static void theOrderOfValues() {
        test("Table: the values of a column stand in the order of the rows", () -> {
            Plotwise p = withValues(1, 2, 9, 3, 4);
            due("9 in between", p.kindOf(0), QUANTITY);
            p.dropRow(2);
            due("without it", p.kindOf(0), TIME);
            p.put(1, 0, 5);
            due("5 in between", p.kindOf(0), QUANTITY);
            p.put(1, 0, GAP);
            due("3 values", p.kindOf(0), QUANTITY);
            p.addRow(6, 0, 0, 0, 0, 0);
            due("4 values", p.kindOf(0), TIME);
        });
    }

    // ---- promises 11 and 12

    private static void forcedKinds() {
        test("11: each kind is taken for each column that is neither EMPTY nor CONSTANT", () -> {
            Plotwise p = sample();
            for (int c = 0; c < 5; c++) {
                for (int kind : KINDS) {
                    due(p.force(c, kind), kind);
                    due(p.kindOf(c), kind);
                }
            }
        });
        test("11: the column 5 is taken", () -> due(sixAlike(1, 2).force(5, TIME), TIME));
        test("11: a forced column that is EMPTY stays so", () -> {
            for (int kind : KINDS) {
                due(new Plotwise().force(0, kind), EMPTY);
                due(oneOfEach().force(5, kind), EMPTY);
            }
        });
        test("11: a forced column that is CONSTANT stays so", () -> {
            for (int kind : KINDS) {
                due(oneOfEach().force(4, kind), CONSTANT);
            }
        });
        test("11: what was forced shows when the column is EMPTY or CONSTANT no longer", () -> {
            Plotwise p = new Plotwise();
            p.force(0, TIME);
            p.addRow(2, 2, 2, 2, 2, 2);
            due(p.kindOf(0), CONSTANT);
            p.addRow(1, 1, 1, 1, 1, 1);
            due(p.kindOf(0), TIME);
            p.dropRow(1);
            due(p.kindOf(0), CONSTANT);
            p.dropRow(0);
            due(p.kindOf(0), EMPTY);
        });
        test("11: forced before TIME and CATEGORY", () -> {
            Plotwise p = sample();
            due(p.force(0, CATEGORY), CATEGORY);
            due(p.force(1, QUANTITY), QUANTITY);
        });
        test("11: forced in place of the one before, which is forgotten", () -> {
            Plotwise p = sample();
            p.force(3, TIME);
            due(p.force(3, CATEGORY), CATEGORY);
            due(p.unforce(3), QUANTITY);
            dueThrow("twice", p, STATE, q -> q.unforce(3));
        });
        test("12: the kind after the call", () -> {
            Plotwise p = oneOfEach();
            int[] kinds = {TIME, CATEGORY, QUANTITY, QUANTITY, CONSTANT, EMPTY};
            for (int c = 0; c < 6; c++) {
                p.force(c, c == 0 ? QUANTITY : TIME);
                due(p.unforce(c), kinds[c]);
            }
            dueAlike(p, oneOfEach());
        });
        test("12: a column forced to the kind that it has is forced", () -> {
            Plotwise p = sample();
            p.force(0, TIME);
            due(p.unforce(0), TIME);
        });
        test("12: the other columns stay forced", () -> {
            Plotwise p = sample();
            p.force(3, TIME);
            p.force(4, CATEGORY);
            p.unforce(3);
            due(p.kindOf(4), CATEGORY);
        });
    }

    private static void refusedKinds() {
        for (int bad : NO_COLUMNS) {
            refused("11: no column " + bad, INDEX, Checks::rich, p -> p.force(bad, TIME));
            refused("11: no column " + bad + " is told before a wrong kind", INDEX, Checks::rich,
                    p -> p.force(bad, EMPTY));
            refused("12: no column " + bad, INDEX, Checks::rich, p -> p.unforce(bad));
        }
        for (int bad : new int[] {-1, EMPTY, CONSTANT, 5, MIN, MAX}) {
            refused("11: no kind " + bad, ARGUMENT, Checks::rich, p -> p.force(3, bad));
            refused("11: no kind " + bad + " for a column that was forced", ARGUMENT, Checks::rich,
                    p -> p.force(2, bad));
            refused("11: no kind " + bad + " for a CONSTANT column", ARGUMENT, Checks::rich, p -> p.force(5, bad));
            refused("11: no kind " + bad + " for an EMPTY column", ARGUMENT, Plotwise::new, p -> p.force(0, bad));
        }
        refused("12: not forced", STATE, Checks::rich, p -> p.unforce(0));
        refused("12: not forced in a new object", STATE, Plotwise::new, p -> p.unforce(5));
        refused("12: no longer forced", STATE, () -> {
            Plotwise p = rich();
            p.unforce(2);
            return p;
        }, p -> p.unforce(2));
    }
}
