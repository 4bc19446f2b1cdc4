/**
 * The boundary cases of the promises 13 to 17 and 35 to 37, with the terms "Hard rules", "Costs" and "Soft rules":
 * each sentence has its own test.
 */
public final class RulesBoundaryTest extends Checks {
    public static void main(String[] args) {
        wishes();
        wishedMarks();
        forbiddenPairs();
        weights();
        hardRules1To3();
        hardRules4And5();
        hardRules6And7();
        hardRules8And9();
        theLowestHardRule();
        costsOfKinds();
        costsOfGaps();
        softRules0To4();
        softRules5To7();
        costsOfSoftRules();
        refusedCosts();
        finish();
    }

    // the columns of the tables sample() and oneOfEach()
    private static final int TIMES = 0;
    private static final int GROUPS = 1;
    private static final int MORE_GROUPS = 2;

    private static void dueRule(Maker maker, String name, int want, char mark, int aggregate, int... in) {
        test(name, () -> due(ruleOf(maker.make(), mark, aggregate, in[0], in[1], in[2], in[3]), want));
    }

    // ---- promise 13

    private static void wishes() {
        test("13: the columns 0 and 5 are taken, and none counts twice", () -> {
            Plotwise p = new Plotwise();
            due(p.wish(0, true), 1);
            due(p.wish(0, true), 1);
            due(p.wish(5, true), 2);
            due(p.wish(0, false), 1);
            due(p.wish(0, false), 1);
            due(p.wish(5, false), 0);
            due(p.wish(5, false), 0);
        });
        test("13: all six columns", () -> {
            Plotwise p = new Plotwise();
            for (int c = 0; c < 6; c++) {
                due(p.wish(c, true), c + 1);
            }
            for (int c = 0; c < 6; c++) {
                due(p.wish(c, false), 5 - c);
            }
            dueAlike(p, new Plotwise());
        });
        test("13: four columns that are wished for find room", () -> {
            Plotwise p = sixAlike(5, 1, 4);
            for (int c = 0; c < 4; c++) {
                p.wish(c, true);
            }
            // points of QUANTITY columns, in each order: 1 + 0 + 4 + 3, and 2 for each of the soft rules 2 and 5
            due(p.allowed(), 24);
            due(ranked(p, 0), "12:p0 0 1 2 3");
        });
        test("13: five columns that are wished for do not", () -> {
            Plotwise p = sixAlike(5, 1, 4);
            for (int c = 0; c < 5; c++) {
                p.wish(c, true);
            }
            due(p.allowed(), 0);
        });
        for (int bad : NO_COLUMNS) {
            refused("13: no column " + bad + " to wish for", INDEX, Checks::rich, p -> p.wish(bad, true));
            refused("13: no column " + bad + " to wish for no more", INDEX, Checks::rich, p -> p.wish(bad, false));
        }
    }

    // ---- promise 14

    private static void wishedMarks() {
        test("14: each mark and none, and the one before", () -> {
            Plotwise p = new Plotwise();
            due(p.wishMark('-'), '-');
            due(p.wishMark('b'), '-');
            due(p.wishMark('b'), 'b');
            due(p.wishMark('l'), 'b');
            due(p.wishMark('p'), 'l');
            due(p.wishMark('-'), 'p');
            due(p.wishMark('-'), '-');
        });
        for (char bad : new char[] {'a', 'c', 'k', 'm', 'o', 'q', 'B', 'L', 'P', ',', '.', ' ', 0, 'b' + 128,
            'b' + 256, '-' + 256, 0xffff}) {
            refused("14: no mark " + (int) bad, ARGUMENT, Checks::rich, p -> p.wishMark(bad));
            refused("14: no mark " + (int) bad + " where none was wished for", ARGUMENT, Checks::sample,
                    p -> p.wishMark(bad));
        }
    }

    // ---- promises 15 and 16

    private static void forbiddenPairs() {
        test("15: each pair is taken once, up to all 24", () -> {
            Plotwise p = new Plotwise();
            int pairs = 0;
            for (int c = 0; c < 6; c++) {
                for (int ch = 0; ch < 4; ch++) {
                    pairs++;
                    due(p.forbid(c, ch), pairs);
                }
            }
            for (int c = 5; c >= 0; c--) {
                for (int ch = 3; ch >= 0; ch--) {
                    pairs--;
                    due(p.allow(c, ch), pairs);
                }
            }
            dueAlike(p, new Plotwise());
        });
        test("15: a pair is one column in one channel", () -> {
            Plotwise p = new Plotwise();
            p.forbid(2, 1);
            for (int c = 0; c < 6; c++) {
                for (int ch = 0; ch < 4; ch++) {
                    int column = c;
                    int channel = ch;
                    String want = c == 2 && ch == 1 ? "0" : STATE.getName();
                    due(answer(p, q -> q.allow(column, channel)), want);
                }
            }
        });
        test("16: what is allowed again can be forbidden again", () -> {
            Plotwise p = new Plotwise();
            due(p.forbid(5, SIZE), 1);
            due(p.allow(5, SIZE), 0);
            due(p.forbid(5, SIZE), 1);
        });
        test("15: all pairs of a column that is EMPTY can be forbidden, and nothing else", () -> {
            Plotwise p = oneOfEach();
            for (int ch = 0; ch < 4; ch++) {
                p.forbid(5, ch);
            }
            due(p.allowed(), oneOfEach().allowed());
        });
        refusedPairs("in a new object", Plotwise::new);
        refusedPairs("where some are forbidden", Checks::rich);
        refusedPairs("where all are forbidden", RulesBoundaryTest::allForbidden);
        for (int i = 0; i < 24; i++) {
            int column = i / 4;
            int channel = i % 4;
            refused("15: forbidden already, " + column + " for " + channel, STATE, RulesBoundaryTest::allForbidden,
                    p -> p.forbid(column, channel));
            refused("16: not forbidden, " + column + " for " + channel, STATE, Checks::sample,
                    p -> p.allow(column, channel));
        }
        refused("15: forbidden already", STATE, Checks::rich, p -> p.forbid(4, COLOUR));
        refused("16: not forbidden", STATE, Checks::rich, p -> p.allow(4, SIZE));
        refused("16: nothing is forbidden at first", STATE, Plotwise::new, p -> p.allow(0, X));
        refused("16: allowed already", STATE, () -> {
            Plotwise p = rich();
            p.allow(4, COLOUR);
            return p;
        }, p -> p.allow(4, COLOUR));
    }

    private static Plotwise allForbidden() {
        Plotwise p = sample();
        for (int i = 0; i < 24; i++) {
            p.forbid(i / 4, i % 4);
        }
        return p;
    }

    private static void refusedPairs(String where, Maker maker) {
        for (int bad : NO_COLUMNS) {
            for (int channel : new int[] {X, SIZE}) {
                refused("15: no column " + bad + ", " + where, INDEX, maker, p -> p.forbid(bad, channel));
                refused("16: no column " + bad + ", " + where, INDEX, maker, p -> p.allow(bad, channel));
            }
        }
        for (int bad : NO_CHANNELS) {
            for (int column : new int[] {0, 4, 5}) {
                refused("15: no channel " + bad + ", " + where, INDEX, maker, p -> p.forbid(column, bad));
                refused("16: no channel " + bad + ", " + where, INDEX, maker, p -> p.allow(column, bad));
            }
        }
    }

    // ---- promise 17

    private static void weights() {
        test("17: 0 and 99 are taken for each rule", () -> {
            int[] weights = {3, 4, 2, 5, 3, 2, 6, 1};
            Plotwise p = new Plotwise();
            for (int rule = 0; rule < 8; rule++) {
                due(p.setWeight(rule, 0), weights[rule]);
                due(p.setWeight(rule, 99), 0);
                due(p.setWeight(rule, 98), 99);
                due(p.setWeight(rule, weights[rule]), 98);
            }
            dueAlike(p, new Plotwise());
        });
        for (int bad : new int[] {-1, 8, MIN, MAX}) {
            refused("17: no rule " + bad, INDEX, Checks::rich, p -> p.setWeight(bad, 0));
            refused("17: no rule " + bad + " is told before a wrong weight", INDEX, Checks::rich,
                    p -> p.setWeight(bad, 100));
        }
        for (int bad : new int[] {-1, 100, MIN, MAX}) {
            refused("17: no weight " + bad, ARGUMENT, Checks::rich, p -> p.setWeight(0, bad));
            refused("17: no weight " + bad + " for the last rule", ARGUMENT, Checks::rich, p -> p.setWeight(7, bad));
        }
    }

    // ---- promise 35

    private static void hardRules1To3() {
        Maker t = Checks::oneOfEach;
        dueRule(t, "rule 1: neither X nor Y", 1, 'p', NONE, NO, NO, GROUPS, 2);
        dueRule(t, "rule 1: no channel at all", 1, 'p', NONE, NO, NO, NO, NO);
        dueRule(t, "rule 1: X alone will do", 0, 'p', NONE, TIMES, NO, NO, NO);
        dueRule(t, "rule 1: Y alone will do", 0, 'p', NONE, NO, TIMES, NO, NO);
        dueRule(t, "rule 2: CONSTANT in X", 2, 'p', NONE, 4, 2, NO, NO);
        dueRule(t, "rule 2: CONSTANT in Y", 2, 'p', NONE, 2, 4, NO, NO);
        dueRule(t, "rule 2: CONSTANT in COLOUR", 2, 'p', NONE, 2, 3, 4, NO);
        dueRule(t, "rule 2: CONSTANT in SIZE", 2, 'p', NONE, 2, 3, NO, 4);
        dueRule(t, "rule 2: EMPTY in X", 2, 'p', NONE, 5, 2, NO, NO);
        dueRule(t, "rule 2: EMPTY in Y", 2, 'p', NONE, 2, 5, NO, NO);
        dueRule(t, "rule 2: EMPTY in COLOUR", 2, 'p', NONE, 2, 3, 5, NO);
        dueRule(t, "rule 2: EMPTY in SIZE", 2, 'p', NONE, 2, 3, NO, 5);
        dueRule(t, "rule 2: each other kind will do", 0, 'p', NONE, TIMES, 2, GROUPS, 3);
        dueRule(Plotwise::new, "rule 2: in a table without rows", 2, 'p', NONE, 0, NO, NO, NO);
        dueRule(t, "rule 3: SIZE is TIME", 3, 'p', NONE, 2, NO, NO, TIMES);
        dueRule(t, "rule 3: SIZE is CATEGORY", 3, 'p', NONE, 2, NO, NO, GROUPS);
        dueRule(t, "rule 3: SIZE is QUANTITY, for points", 0, 'p', NONE, TIMES, NO, NO, 2);
        dueRule(t, "rule 3: SIZE is QUANTITY, for bars", 3, 'b', COUNT, TIMES, NO, NO, 2);
        dueRule(t, "rule 3: SIZE is QUANTITY, for a line", 3, 'l', COUNT, TIMES, NO, NO, 2);
        dueRule(t, "rule 3: no SIZE, for bars", 0, 'b', COUNT, TIMES, NO, NO, NO);
        dueRule(t, "rule 3: no SIZE, for a line", 0, 'l', COUNT, TIMES, NO, NO, NO);
    }

    private static void hardRules4And5() {
        Maker t = Checks::sample;
        dueRule(t, "rule 4: X is CATEGORY", 0, 'b', NONE, GROUPS, 3, NO, NO);
        dueRule(t, "rule 4: X is TIME", 0, 'b', NONE, TIMES, 3, NO, NO);
        dueRule(t, "rule 4: X is QUANTITY", 4, 'b', NONE, 4, 3, NO, NO);
        dueRule(t, "rule 4: no X", 4, 'b', NONE, NO, 3, NO, NO);
        dueRule(t, "rule 4: X is QUANTITY, in any case, with COUNT too", 4, 'b', COUNT, 4, NO, NO, NO);
        dueRule(t, "rule 4: Y is TIME", 4, 'b', NONE, GROUPS, TIMES, NO, NO);
        dueRule(t, "rule 4: Y is CATEGORY", 4, 'b', NONE, GROUPS, MORE_GROUPS, NO, NO);
        dueRule(t, "rule 4: no Y", 4, 'b', NONE, GROUPS, NO, NO, NO);
        dueRule(t, "rule 4: no Y, with MEAN", 4, 'b', MEAN, GROUPS, NO, NO, NO);
        dueRule(t, "rule 4: no Y, with COUNT", 0, 'b', COUNT, GROUPS, NO, NO, NO);
        dueRule(t, "rule 4: Y is CATEGORY, with COUNT", 6, 'b', COUNT, GROUPS, MORE_GROUPS, NO, NO);
        dueRule(t, "rule 4: another mark", 0, 'p', NONE, 4, TIMES, NO, NO);
        dueRule(t, "rule 5: X is TIME", 0, 'l', NONE, TIMES, 3, NO, NO);
        dueRule(t, "rule 5: X is QUANTITY", 0, 'l', NONE, 4, 3, NO, NO);
        dueRule(t, "rule 5: X is CATEGORY", 5, 'l', NONE, GROUPS, 3, NO, NO);
        dueRule(t, "rule 5: no X", 5, 'l', NONE, NO, 3, NO, NO);
        dueRule(t, "rule 5: X is CATEGORY, in any case, with COUNT too", 5, 'l', COUNT, GROUPS, NO, NO, NO);
        dueRule(t, "rule 5: Y is TIME", 5, 'l', NONE, 3, TIMES, NO, NO);
        dueRule(t, "rule 5: Y is CATEGORY", 5, 'l', NONE, TIMES, GROUPS, NO, NO);
        dueRule(t, "rule 5: no Y", 5, 'l', NONE, TIMES, NO, NO, NO);
        dueRule(t, "rule 5: no Y, with MEAN", 5, 'l', MEAN, TIMES, NO, NO, NO);
        dueRule(t, "rule 5: no Y, with COUNT", 0, 'l', COUNT, TIMES, NO, NO, NO);
        dueRule(t, "rule 5: Y is CATEGORY, with COUNT", 6, 'l', COUNT, TIMES, GROUPS, NO, NO);
        dueRule(t, "rule 5: another mark", 0, 'p', NONE, GROUPS, MORE_GROUPS, NO, NO);
    }

    private static void hardRules6And7() {
        Maker t = Checks::sample;
        dueRule(t, "rule 6: COUNT without Y", 0, 'p', COUNT, 3, NO, GROUPS, 4);
        dueRule(t, "rule 6: COUNT, and Y is TIME", 6, 'p', COUNT, 3, TIMES, NO, NO);
        dueRule(t, "rule 6: COUNT, and Y is CATEGORY", 6, 'p', COUNT, NO, GROUPS, NO, NO);
        dueRule(t, "rule 6: COUNT, and Y is QUANTITY", 6, 'p', COUNT, TIMES, 3, NO, NO);
        dueRule(t, "rule 6: COUNT, and Y is QUANTITY, for bars", 6, 'b', COUNT, GROUPS, 3, NO, NO);
        dueRule(t, "rule 6: COUNT, and Y is QUANTITY, for a line", 6, 'l', COUNT, TIMES, 3, NO, NO);
        dueRule(t, "rule 6: NONE with Y", 0, 'p', NONE, NO, GROUPS, NO, NO);
        dueRule(t, "rule 6: MEAN with Y", 0, 'p', MEAN, GROUPS, 3, NO, NO);
        dueRule(t, "rule 7: X is CATEGORY", 0, 'b', MEAN, GROUPS, 3, NO, NO);
        dueRule(t, "rule 7: X is TIME", 0, 'l', MEAN, TIMES, 3, NO, NO);
        dueRule(t, "rule 7: X is QUANTITY", 7, 'p', MEAN, 4, 3, NO, NO);
        dueRule(t, "rule 7: X is QUANTITY, for a line", 7, 'l', MEAN, 4, 3, NO, NO);
        dueRule(t, "rule 7: no X", 7, 'p', MEAN, NO, 3, NO, NO);
        dueRule(t, "rule 7: Y is TIME", 7, 'p', MEAN, GROUPS, TIMES, NO, NO);
        dueRule(t, "rule 7: Y is CATEGORY", 7, 'p', MEAN, TIMES, GROUPS, NO, NO);
        dueRule(t, "rule 7: no Y", 7, 'p', MEAN, TIMES, NO, NO, NO);
        dueRule(t, "rule 7: another aggregate", 0, 'p', NONE, 4, 3, NO, NO);
    }

    private static void hardRules8And9() {
        int[] in = {TIMES, 3, GROUPS, 4};
        for (int channel = 0; channel < 4; channel++) {
            int ch = channel;
            test("rule 8: the column of the channel " + ch + " is forbidden for it, and then no more", () -> {
                Plotwise p = sample();
                p.forbid(in[ch], ch);
                due(ruleOf(p, 'p', NONE, TIMES, 3, GROUPS, 4), 8);
                p.allow(in[ch], ch);
                due(p.brokenRule(), 0);
            });
            test("rule 8: the column of the channel " + ch + " is forbidden for the other channels", () -> {
                Plotwise p = sample();
                for (int other = 0; other < 4; other++) {
                    if (other != ch) {
                        p.forbid(in[ch], other);
                    }
                }
                due(ruleOf(p, 'p', NONE, TIMES, 3, GROUPS, 4), 0);
            });
            test("rule 8: the other columns are forbidden for the channel " + ch, () -> {
                Plotwise p = sample();
                for (int other = 0; other < 6; other++) {
                    if (other != in[ch]) {
                        p.forbid(other, ch);
                    }
                }
                due(ruleOf(p, 'p', NONE, TIMES, 3, GROUPS, 4), 0);
            });
            test("rule 9: the column of the channel " + ch + " is wished for", () -> {
                Plotwise p = sample();
                p.wish(in[ch], true);
                due(ruleOf(p, 'p', NONE, TIMES, 3, GROUPS, 4), 0);
                p.draftColumn(ch, NO);
                due(p.brokenRule(), 9);
                p.wish(in[ch], false);
                due(p.brokenRule(), 0);
            });
        }
        test("rule 8: a channel without a column breaks it in no case", () -> {
            Plotwise p = sample();
            for (int c = 0; c < 6; c++) {
                for (int ch = 1; ch < 4; ch++) {
                    p.forbid(c, ch);
                }
            }
            due(ruleOf(p, 'p', NONE, TIMES, NO, NO, NO), 0);
        });
        test("rule 9: four columns wished for, all there", () -> {
            Plotwise p = sample();
            for (int column : in) {
                p.wish(column, true);
            }
            due(ruleOf(p, 'p', NONE, TIMES, 3, GROUPS, 4), 0);
        });
        test("rule 9: two columns wished for, one there", () -> {
            Plotwise p = sample();
            p.wish(TIMES, true);
            p.wish(5, true);
            due(ruleOf(p, 'p', NONE, TIMES, 3, GROUPS, 4), 9);
        });
        for (char wished : new char[] {'b', 'l', 'p'}) {
            for (char mark : new char[] {'b', 'l', 'p'}) {
                test("rule 9: '" + wished + "' is wished for, the mark is '" + mark + "'", () -> {
                    Plotwise p = sample();
                    p.wishMark(wished);
                    due(ruleOf(p, mark, NONE, TIMES, 3, NO, NO), wished == mark ? 0 : 9);
                    p.wishMark('-');
                    due(p.brokenRule(), 0);
                });
            }
        }
        test("rule 9: the column is there, the mark is not the wished one", () -> {
            Plotwise p = sample();
            p.wish(TIMES, true);
            p.wishMark('l');
            due(ruleOf(p, 'b', NONE, TIMES, 3, NO, NO), 9);
        });
    }

    /** The sample, where a 3 or a 1 in Y breaks the rule 8, and each draft breaks the rule 9. */
    private static Plotwise strict() {
        Plotwise p = sample();
        p.forbid(3, Y);
        p.forbid(GROUPS, Y);
        p.wish(5, true);
        return p;
    }

    private static void theLowestHardRule() {
        Maker t = RulesBoundaryTest::strict;
        dueRule(t, "35: 1 before the rest", 1, 'b', MEAN, NO, NO, 5, GROUPS);
        dueRule(t, "35: 2 before the rest", 2, 'b', COUNT, 5, 3, NO, 4);
        dueRule(t, "35: 3 before 4 and the rest", 3, 'b', COUNT, 4, 3, NO, GROUPS);
        dueRule(t, "35: 3 before 5 and the rest", 3, 'l', MEAN, GROUPS, NO, NO, 4);
        dueRule(t, "35: 4 before 6 and the rest", 4, 'b', COUNT, 4, 3, NO, NO);
        dueRule(t, "35: 4 before 7 and the rest", 4, 'b', MEAN, 4, GROUPS, NO, NO);
        dueRule(t, "35: 5 before 6 and the rest", 5, 'l', COUNT, MORE_GROUPS, 3, NO, NO);
        dueRule(t, "35: 5 before 7 and the rest", 5, 'l', MEAN, TIMES, GROUPS, NO, NO);
        dueRule(t, "35: 6 before 8 and 9", 6, 'p', COUNT, TIMES, 3, NO, NO);
        dueRule(t, "35: 7 before 8 and 9", 7, 'p', MEAN, 4, 3, NO, NO);
        dueRule(t, "35: 8 before 9", 8, 'p', MEAN, TIMES, 3, NO, NO);
        dueRule(t, "35: 9", 9, 'p', NONE, TIMES, 4, NO, NO);
        dueRule(Checks::sample, "35: 0 if the draft is allowed", 0, 'p', MEAN, TIMES, 3, NO, NO);
        dueRule(Plotwise::new, "35: the draft of a new object", 1, 'b', NONE, NO, NO, NO, NO);
    }

    // ---- promise 37, the first two parts of the costs

    private static void dueCost(String name, int want, char mark, int aggregate, int... in) {
        test(name, () -> {
            Plotwise p = sample();
            for (int rule = 0; rule < 8; rule++) {
                p.setWeight(rule, 0);
            }
            due(costOf(p, mark, aggregate, in[0], in[1], in[2], in[3]), want);
        });
    }

    private static void costsOfKinds() {
        dueCost("costs: TIME in X is 0", 0, 'p', NONE, TIMES, NO, NO, NO);
        dueCost("costs: TIME in Y is 2", 2, 'p', NONE, NO, TIMES, NO, NO);
        dueCost("costs: TIME in COLOUR is 6", 6, 'p', NONE, NO, 3, TIMES, NO);
        dueCost("costs: CATEGORY in X is 1", 1, 'p', NONE, GROUPS, NO, NO, NO);
        dueCost("costs: CATEGORY in Y is 2", 2, 'p', NONE, NO, GROUPS, NO, NO);
        dueCost("costs: CATEGORY in COLOUR is 2", 2, 'p', NONE, NO, 3, GROUPS, NO);
        dueCost("costs: QUANTITY in X is 1", 1, 'p', NONE, 3, NO, NO, NO);
        dueCost("costs: QUANTITY in Y is 0", 0, 'p', NONE, NO, 3, NO, NO);
        dueCost("costs: QUANTITY in COLOUR is 4", 4, 'p', NONE, NO, 3, 4, NO);
        dueCost("costs: QUANTITY in SIZE is 3", 3, 'p', NONE, NO, 3, NO, 4);
        dueCost("costs: the channels add up", 1 + 2 + 4 + 3, 'p', NONE, GROUPS, TIMES, 3, 4);
        test("costs: by the kind to which a column was forced", () -> {
            Plotwise p = sample();
            p.force(3, TIME);
            due(costOf(p, 'l', COUNT, 3, NO, NO, NO), 0 + 1);
            p.force(3, QUANTITY);
            due(p.draftCost(), 1 + 1);
        });
    }

    /** 20 rows with TIME, QUANTITY and QUANTITY, where the columns 1 and 2 have no value in some rows. */
    private static Plotwise withGaps(int from1, int to1, int from2, int to2) {
        Plotwise p = new Plotwise();
        for (int row = 0; row < 20; row++) {
            int b = row >= from1 && row < to1 ? GAP : row * 7 % 23;
            int c = row >= from2 && row < to2 ? GAP : row * 5 % 23;
            p.addRow(row, b, c, GAP, GAP, GAP);
        }
        p.force(1, QUANTITY);
        p.force(2, QUANTITY);
        return p;
    }

    private static void costsOfGaps() {
        int[][] due = {{0, 0}, {4, 0}, {5, 1}, {9, 1}, {10, 2}, {14, 2}, {15, 3}, {18, 3}};
        for (int[] rowsAndCost : due) {
            int rows = rowsAndCost[0];
            test("costs: " + rows + " rows without a value", () ->
                due(costOf(withGaps(0, rows, 0, 0), 'l', NONE, 0, 1, NO, NO), rowsAndCost[1]));
            test("costs: " + rows + " rows without a value, from the last one", () ->
                due(costOf(withGaps(20 - rows, 20, 0, 0), 'l', NONE, 0, 1, NO, NO), rowsAndCost[1]));
        }
        test("costs: rows where the one or the other column has no value add up", () ->
            due(costOf(withGaps(0, 3, 3, 5), 'p', NONE, 1, 2, NO, NO), 1 + 1));
        test("costs: one row fewer", () ->
            due(costOf(withGaps(0, 3, 3, 4), 'p', NONE, 1, 2, NO, NO), 1 + 0));
        test("costs: 4 rows where both columns have no value count once each", () ->
            due(costOf(withGaps(0, 4, 0, 4), 'p', NONE, 1, 2, NO, NO), 1 + 0));
        test("costs: 5 rows where both columns have no value count once each", () ->
            due(costOf(withGaps(5, 10, 5, 10), 'p', NONE, 1, 2, NO, NO), 1 + 1));
        test("costs: a column that is in no channel does not count", () ->
            due(costOf(withGaps(0, 4, 0, 18), 'l', NONE, 0, 1, NO, NO), 0));
        test("costs: a column in COLOUR counts", () ->
            due(costOf(withGaps(0, 0, 0, 5), 'l', NONE, 0, 1, 2, NO), 4 + 1 + 2 + 2));
        test("costs: a column in SIZE counts", () ->
            due(costOf(withGaps(0, 0, 0, 5), 'p', NONE, 0, 1, NO, 2), 3 + 1 + 2));
        test("costs: a column in X counts, with COUNT", () ->
            due(costOf(withGaps(0, 5, 0, 0), 'l', COUNT, 1, NO, NO, NO), 1 + 1 + 1));
        test("costs: 40 rows, and in each of them one column has no value", () -> {
            Plotwise p = new Plotwise();
            for (int row = 0; row < 40; row++) {
                p.addRow(row < 20 ? row : GAP, row < 20 ? GAP : row * 7 % 41, GAP, GAP, GAP, GAP);
            }
            due(costOf(p, 'l', NONE, 0, 1, NO, NO), 8);
            p.put(39, 0, 39);
            due("39 rows", p.draftCost(), 7);
        });
        test("costs: a dropped row counts no more", () -> {
            Plotwise p = withGaps(0, 5, 0, 0);
            p.dropRow(0);
            due(costOf(p, 'l', NONE, 0, 1, NO, NO), 0);
        });
    }

    // ---- promise 36

    private static void dueSoft(String name, int want, char mark, int aggregate, int... in) {
        test(name, () -> due(softOf(sample(), mark, aggregate, in[0], in[1], in[2], in[3]), want));
    }

    private static void softRules0To4() {
        dueSoft("soft 0: 'b' with NONE", 1, 'b', NONE, TIMES, 3, NO, NO);
        dueSoft("soft 0: 'b' with COUNT", 0, 'b', COUNT, TIMES, 3, NO, NO);
        dueSoft("soft 0: 'b' with MEAN", 0, 'b', MEAN, TIMES, 3, NO, NO);
        dueSoft("soft 0: 'l' with NONE", 0, 'l', NONE, TIMES, 3, NO, NO);
        dueSoft("soft 0: 'p' with NONE", 0, 'p', NONE, TIMES, 3, NO, NO);
        dueSoft("soft 1: X and Y are CATEGORY", 2, 'l', NONE, GROUPS, MORE_GROUPS, NO, NO);
        dueSoft("soft 1: X alone", 0, 'l', NONE, GROUPS, 3, NO, NO);
        dueSoft("soft 1: Y alone", 0, 'l', NONE, 3, GROUPS, NO, NO);
        dueSoft("soft 1: X and COLOUR, and no Y", 128, 'l', NONE, GROUPS, NO, MORE_GROUPS, NO);
        dueSoft("soft 2: COLOUR is QUANTITY", 4 + 128, 'l', NONE, TIMES, NO, 3, NO);
        dueSoft("soft 2: COLOUR is CATEGORY", 128, 'l', NONE, TIMES, NO, GROUPS, NO);
        dueSoft("soft 2: COLOUR is TIME", 128, 'l', NONE, 3, NO, TIMES, NO);
        dueSoft("soft 2: SIZE is QUANTITY", 128, 'l', NONE, TIMES, NO, NO, 3);
        test("soft 3: 20 rows", () -> due(softOf(tall(20), 'p', NONE, 0, 2, NO, NO), 0));
        test("soft 3: 21 rows", () -> due(softOf(tall(21), 'p', NONE, 0, 2, NO, NO), 8));
        test("soft 3: 40 rows", () -> due(softOf(tall(40), 'p', NONE, 0, 2, NO, NO), 8));
        test("soft 3: 21 rows, a line", () -> due(softOf(tall(21), 'l', NONE, 0, 2, NO, NO), 0));
        test("soft 3: 21 rows, bars", () -> due(softOf(tall(21), 'b', NONE, 0, 2, NO, NO), 1));
        test("soft 3: 21 rows, MEAN", () -> due(softOf(tall(21), 'p', MEAN, 0, 2, NO, NO), 16));
        test("soft 3: 21 rows, COUNT", () -> due(softOf(tall(21), 'p', COUNT, 0, 2, NO, NO), 16));
        test("soft 3: a row without values is a row, until it is dropped", () -> {
            Plotwise p = tall(20);
            p.addRow(GAP, GAP, GAP, GAP, GAP, GAP);
            due(softOf(p, 'p', NONE, 0, 2, NO, NO), 8);
            p.dropRow(20);
            due(p.softRules(), 0);
        });
        dueSoft("soft 4: 'p' with COUNT", 16, 'p', COUNT, TIMES, 3, NO, NO);
        dueSoft("soft 4: 'p' with MEAN", 16, 'p', MEAN, TIMES, 3, NO, NO);
        dueSoft("soft 4: 'p' with NONE", 0, 'p', NONE, TIMES, 3, NO, NO);
        dueSoft("soft 4: 'b' with MEAN", 0, 'b', MEAN, TIMES, 3, NO, NO);
        dueSoft("soft 4: 'l' with COUNT", 0, 'l', COUNT, TIMES, 3, NO, NO);
    }

    /** A column with so many values, each of them twice, which is forced to be CATEGORY; and others for X and Y. */
    private static Plotwise colours(int different) {
        Plotwise p = new Plotwise();
        for (int row = 0; row < 2 * different; row++) {
            p.addRow(row, row * row % 37, row % different, GAP, GAP, GAP);
        }
        p.force(2, CATEGORY);
        return p;
    }

    private static void softRules5To7() {
        dueSoft("soft 5: two channels", 0, 'l', NONE, TIMES, 3, NO, NO);
        dueSoft("soft 5: X, Y and COLOUR", 32, 'l', NONE, TIMES, 3, GROUPS, NO);
        dueSoft("soft 5: X, Y and SIZE", 32, 'l', NONE, TIMES, 3, NO, 4);
        dueSoft("soft 5: X, COLOUR and SIZE", 32 + 128, 'l', NONE, TIMES, NO, GROUPS, 3);
        dueSoft("soft 5: Y, COLOUR and SIZE", 32 + 128, 'l', NONE, NO, TIMES, GROUPS, 3);
        dueSoft("soft 5: four channels", 32, 'l', NONE, TIMES, 3, GROUPS, 4);
        dueSoft("soft 5: a CONSTANT column is a column", 32, 'l', NONE, TIMES, 3, 5, NO);
        test("soft 6: 4 different colours", () -> due(softOf(colours(4), 'l', NONE, 0, 1, 2, NO), 32));
        test("soft 6: 5 different colours", () -> due(softOf(colours(5), 'l', NONE, 0, 1, 2, NO), 32 + 64));
        test("soft 6: 7 different colours, forced", () -> due(softOf(colours(7), 'l', NONE, 0, 1, 2, NO), 32 + 64));
        test("soft 6: 5 different values in X", () -> due(softOf(colours(5), 'l', NONE, 2, 1, NO, NO), 0));
        test("soft 6: COLOUR is TIME", () -> due(softOf(colours(5), 'l', NONE, 2, 1, 0, NO), 32));
        test("soft 6: COLOUR is QUANTITY", () -> due(softOf(colours(5), 'l', NONE, 0, 2, 1, NO), 4 + 32));
        dueSoft("soft 7: no X", 128, 'l', NONE, NO, 3, NO, NO);
        dueSoft("soft 7: no Y", 128, 'l', NONE, 3, NO, NO, NO);
        dueSoft("soft 7: neither", 128, 'l', NONE, NO, NO, NO, NO);
        dueSoft("soft 7: both", 0, 'l', NONE, TIMES, 3, NO, NO);
        dueSoft("soft 7: both, and one of them CONSTANT", 0, 'l', NONE, TIMES, 5, NO, NO);
        dueSoft("36: none of them is broken", 0, 'p', NONE, TIMES, 3, NO, NO);
        test("36: many of them, though the draft is not allowed", () -> {
            Plotwise p = colours(7);
            p.force(0, CATEGORY);
            p.force(1, CATEGORY);
            due(softOf(p, 'b', NONE, 0, 1, 2, 3), 1 + 2 + 32 + 64);
            due(p.brokenRule() != 0, true);
        });
        test("36: the draft of a new object", () -> due(new Plotwise().softRules(), 1 + 128));
        test("36: the weights do not matter", () -> {
            Plotwise p = sample();
            for (int rule = 0; rule < 8; rule++) {
                p.setWeight(rule, 0);
            }
            due(softOf(p, 'b', NONE, TIMES, NO, 3, NO), 1 + 4 + 128);
        });
    }

    // ---- promise 37, the third part of the costs

    private static void dueWeight(String name, int rule, Maker maker, char mark, int aggregate, int... in) {
        test(name, () -> {
            Plotwise p = maker.make();
            draft(p, mark, aggregate, in[0], in[1], in[2], in[3]);
            int before = p.draftCost();
            int weight = p.setWeight(rule, 0);
            due("weight 0", p.draftCost(), before - weight);
            p.setWeight(rule, 99);
            due("weight 99", p.draftCost(), before - weight + 99);
            p.setWeight(rule, weight);
            for (int other = 0; other < 8; other++) {
                if ((p.softRules() >> other & 1) == 0) {
                    p.setWeight(other, 99);
                }
            }
            due("the rules that it does not break", p.draftCost(), before);
        });
    }

    private static void costsOfSoftRules() {
        Maker t = Checks::sample;
        dueWeight("costs: soft rule 0", 0, t, 'b', NONE, TIMES, 3, NO, NO);
        dueWeight("costs: soft rule 1", 1, t, 'p', NONE, GROUPS, MORE_GROUPS, NO, NO);
        dueWeight("costs: soft rule 2", 2, t, 'p', NONE, TIMES, NO, 3, NO);
        dueWeight("costs: soft rule 3", 3, () -> tall(21), 'p', NONE, 0, 2, NO, NO);
        dueWeight("costs: soft rule 4", 4, t, 'p', COUNT, TIMES, NO, NO, NO);
        dueWeight("costs: soft rule 5", 5, t, 'p', NONE, TIMES, 3, GROUPS, 4);
        dueWeight("costs: soft rule 6", 6, () -> colours(5), 'l', NONE, 0, 1, 2, NO);
        dueWeight("costs: soft rule 7", 7, t, 'p', NONE, NO, 3, NO, NO);
        test("costs: the weights of all rules that are broken add up", () -> {
            Plotwise p = sample();
            for (int rule = 0; rule < 8; rule++) {
                p.setWeight(rule, 99);
            }
            due(costOf(p, 'p', COUNT, TIMES, NO, 3, 4), 0 + 4 + 3 + 99 * 4);
        });
    }

    private static void refusedCosts() {
        refused("37: the draft of a new object", STATE, Plotwise::new, Plotwise::draftCost);
        int[][] broken = {{1, 'p', NONE, NO, NO, GROUPS, NO}, {2, 'p', NONE, 5, 3, NO, NO},
            {3, 'p', NONE, 3, NO, NO, GROUPS}, {4, 'b', NONE, 3, 4, NO, NO}, {5, 'l', NONE, GROUPS, 3, NO, NO},
            {6, 'p', COUNT, TIMES, 4, NO, NO}, {7, 'p', MEAN, 4, 3, NO, NO}, {8, 'p', NONE, TIMES, 3, NO, NO},
            {9, 'p', NONE, TIMES, 4, NO, NO}};
        for (int[] b : broken) {
            Maker maker = () -> {
                Plotwise p = strict();
                draft(p, (char) b[1], b[2], b[3], b[4], b[5], b[6]);
                return p;
            };
            test("37: the draft breaks the rule " + b[0], () -> due(maker.make().brokenRule(), b[0]));
            refused("37: no cost, the rule " + b[0] + " is broken", STATE, maker, Plotwise::draftCost);
            refused("38: no rank, the rule " + b[0] + " is broken", STATE, maker, Plotwise::draftRank);
        }
        test("37: the cost is there once the draft is allowed", () -> {
            Plotwise p = sample();
            draft(p, 'p', NONE, TIMES, 3, NO, NO);
            p.wish(4, true);
            dueThrow("wished for", p, STATE, Plotwise::draftCost);
            p.wish(4, false);
            due(p.draftCost(), 0);
        });
    }
}
