/**
 * The boundary cases of the promises 18 to 23, 38 and 39, with the term "Order" and the 512 calls of an object:
 * each sentence has its own test.
 */
public final class RankingBoundaryTest extends Checks {
    public static void main(String[] args) {
        numbersOfCharts();
        rankingsOfEachLength();
        refusedRanks();
        costsByTrying();
        refusedCostsByTrying();
        orderOfCostAndMark();
        orderOfAggregates();
        orderOfColumns();
        theWholeOrder();
        draftRanks();
        changesShowAtOnce();
        sound();
        manyCalls();
        finish();
    }

    // ---- promise 18

    private static void dueAllowed(String name, int want, Maker maker) {
        test("18: " + name, () -> due(maker.make().allowed(), want));
    }

    private static void numbersOfCharts() {
        dueAllowed("no rows", 0, Plotwise::new);
        dueAllowed("no values", 0, () -> sixAlike(GAP, GAP));
        dueAllowed("constants alone", 0, () -> sixAlike(1, 1, 1));
        // bars and points with COUNT in X; points with NONE in X or Y
        dueAllowed("one CATEGORY", 4, () -> withValues(1, 1, 2, 2));
        // a line and points with COUNT in X; points with NONE in X or Y
        dueAllowed("one QUANTITY", 4, () -> withValues(2, 1));
        // bars, a line and points with COUNT in X; points with NONE in X or Y
        dueAllowed("one TIME", 5, () -> withValues(1, 2, 3, 4));
        // bars and points with COUNT: 6 in X with none or 5 in COLOUR; points with NONE: 229 ways to fill X, Y and
        // COLOUR but for 7 with neither X nor Y
        dueAllowed("six CATEGORY", 36 + 36 + 222, () -> sixAlike(1, 1, 2, 2));
        // the same, and lines with COUNT
        dueAllowed("six TIME", 36 + 36 + 36 + 222, () -> sixAlike(1, 2, 3, 4));
        // lines with NONE: 30 in X and Y with none or 4 in COLOUR; lines with COUNT: 36; points with NONE: 1045 ways to
        // fill all channels but for 43 with neither X nor Y; points with COUNT: 6 in X with 31 ways to fill the others
        dueAllowed("six QUANTITY", 150 + 36 + 1002 + 186, () -> sixAlike(2, 1, 3));
        dueAllowed("all pairs forbidden", 0, () -> {
            Plotwise p = sample();
            for (int i = 0; i < 24; i++) {
                p.forbid(i / 4, i % 4);
            }
            return p;
        });
        dueAllowed("all pairs forbidden but one", 4, () -> {
            Plotwise p = sample();
            for (int i = 1; i < 24; i++) {
                p.forbid(i / 4, i % 4);
            }
            return p;
        });
        dueAllowed("a CONSTANT column is wished for", 0, Checks::richWithoutCharts);
        dueAllowed("an EMPTY column is wished for", 0, () -> {
            Plotwise p = oneOfEach();
            p.wish(5, true);
            return p;
        });
    }

    // ---- promises 19 and 21 to 23

    private static void rankingsOfEachLength() {
        test("19 to 23: no chart", () -> due(ranking(new Plotwise()), NO_ELEMENT.getName()));
        test("19 to 23: one chart", () -> {
            Plotwise p = withValues(1, 1, 2, 2);
            p.wishMark('b');
            due(p.allowed(), 1);
            due(ranking(p), "2:b1 0 -1 -1 -1");
        });
        test("19 to 23: four charts", () -> {
            Plotwise p = withValues(1, 1, 2, 2);
            due(p.allowed(), 4);
            due(ranking(p), "2:b1 0 -1 -1 -1, 2:p0 0 -1 -1 -1, 3:p0 -1 0 -1 -1, 5:p1 0 -1 -1 -1");
        });
        test("19 to 23: five charts", () -> {
            Plotwise p = withValues(1, 2, 3, 4);
            due(p.allowed(), 5);
            due(ranking(p), "1:b1 0 -1 -1 -1, 1:l1 0 -1 -1 -1, 1:p0 0 -1 -1 -1, 3:p0 -1 0 -1 -1, 4:p1 0 -1 -1 -1");
        });
        test("19 to 23: six charts, of which five are in the ranking", () -> {
            Plotwise p = sixCharts();
            due(p.allowed(), 6);
            due(ranking(p), "2:b1 1 -1 -1 -1, 2:l1 0 -1 -1 -1, 2:p0 0 -1 -1 -1, 2:p0 1 -1 -1 -1, 5:p1 0 -1 -1 -1");
            due("the sixth", rankOf(p, 'p', COUNT, 1, NO, NO, NO), 5);
        });
        test("23: each channel, with a column and without", () -> {
            Plotwise p = sample();
            for (int c = 1; c < 5; c++) {
                p.wish(c, true);
            }
            // two of CATEGORY and two of QUANTITY: SIZE is QUANTITY, and X and COLOUR best are CATEGORY
            due(ranked(p, 0), "8:p0 1 3 2 4");
            p.wish(4, false);
            p.wish(2, false);
            due(ranked(p, 0), "1:b2 1 3 -1 -1");
        });
        test("19: what costs most is there too", () -> {
            Plotwise p = new Plotwise();
            for (int row = 0; row < 40; row++) {
                p.addRow(row < 20 ? row * 7 % 41 : GAP, row < 20 ? GAP : row % 5, GAP, GAP, GAP, GAP);
            }
            for (int rule = 0; rule < 8; rule++) {
                p.setWeight(rule, 99);
            }
            p.forbid(0, X);
            p.forbid(0, SIZE);
            p.forbid(1, Y);
            p.forbid(1, X);
            p.forbid(0, COLOUR);
            p.wish(1, true);
            // points with 0 in Y and 1 in COLOUR: 2 for a CATEGORY, 8 for the gaps, and the soft rules 3, 6 and 7
            due(ranking(p), (2 + 8 + 3 * 99) + ":p0 -1 0 1 -1");
            due(p.costByTrying(0), p.cost(0));
            due(p.isSound(), true);
        });
    }

    /** QUANTITY and CATEGORY, which are allowed in X alone. */
    private static Plotwise sixCharts() {
        Plotwise p = new Plotwise();
        int[] values = {1, 3, 2, 9};
        for (int i = 0; i < 4; i++) {
            p.addRow(values[i], i % 2, GAP, GAP, GAP, GAP);
        }
        for (int column = 0; column < 2; column++) {
            for (int channel = Y; channel <= SIZE; channel++) {
                p.forbid(column, channel);
            }
        }
        return p;
    }

    private static void refusedRanks() {
        for (int bad : new int[] {-1, 5, 6, MIN, MAX}) {
            refused("19: no rank " + bad, NO_ELEMENT, Checks::rich, p -> p.cost(bad));
            refused("20: no rank " + bad, NO_ELEMENT, () -> withValues(1, 2, 3, 4), p -> p.costByTrying(bad));
            refused("21: no rank " + bad, NO_ELEMENT, Checks::rich, p -> p.mark(bad));
            refused("22: no rank " + bad, NO_ELEMENT, Checks::rich, p -> p.aggregate(bad));
            refused("23: no rank " + bad, NO_ELEMENT, Checks::rich, p -> p.column(bad, SIZE));
        }
        for (int bad : NO_CHANNELS) {
            refused("23: no channel " + bad, INDEX, Checks::rich, p -> p.column(0, bad));
            refused("23: no channel " + bad + " at the last rank", INDEX, Checks::rich, p -> p.column(4, bad));
            refused("23: no rank 5 is told before no channel " + bad, NO_ELEMENT, Checks::rich, p -> p.column(5, bad));
            refused("23: no rank -1 is told before no channel " + bad, NO_ELEMENT, Checks::rich,
                    p -> p.column(-1, bad));
            refused("23: an empty ranking is told before no channel " + bad, NO_ELEMENT, Plotwise::new,
                    p -> p.column(0, bad));
        }
        Maker four = () -> withValues(1, 1, 2, 2);
        refused("19: no rank 4 of four", NO_ELEMENT, four, p -> p.cost(4));
        refused("20: no rank 4 of four", NO_ELEMENT, four, p -> p.costByTrying(4));
        refused("21: no rank 4 of four", NO_ELEMENT, four, p -> p.mark(4));
        refused("22: no rank 4 of four", NO_ELEMENT, four, p -> p.aggregate(4));
        refused("23: no rank 4 of four", NO_ELEMENT, four, p -> p.column(4, 0));
        Maker none = Checks::richWithoutCharts;
        refused("19: no rank 0 of none", NO_ELEMENT, none, p -> p.cost(0));
        refused("20: no rank 0 of none", NO_ELEMENT, Plotwise::new, p -> p.costByTrying(0));
        refused("21: no rank 0 of none", NO_ELEMENT, none, p -> p.mark(0));
        refused("22: no rank 0 of none", NO_ELEMENT, none, p -> p.aggregate(0));
        refused("23: no rank 0 of none", NO_ELEMENT, none, p -> p.column(0, 0));
    }

    // ---- promise 20

    /** So many columns that are neither EMPTY nor CONSTANT; the others are, by turns. */
    private static Plotwise usable(int columns) {
        Plotwise p = new Plotwise();
        for (int row = 0; row < 6; row++) {
            int[] v = {row, row % 2, row * row % 7, row * 5 % 7, row % 3, 9 - row};
            for (int c = columns; c < 6; c++) {
                v[c] = c % 2 == 0 ? 7 : GAP;
            }
            p.addRow(v[0], v[1], v[2], v[3], v[4], v[5]);
        }
        return p;
    }

    private static void costsByTrying() {
        for (int columns = 1; columns <= 3; columns++) {
            int n = columns;
            test("20: " + n + " columns are tried", () -> {
                Plotwise p = usable(n);
                for (int rank = 0; rank < 5; rank++) {
                    due(p.costByTrying(rank), p.cost(rank));
                }
            });
        }
        test("20: the costs of one column by hand", () -> {
            Plotwise p = withValues(1, 1, 2, 2);
            due(join(p.costByTrying(0), p.costByTrying(1), p.costByTrying(2), p.costByTrying(3)), join(2, 2, 3, 5));
        });
        test("20: CONSTANT columns that were forced do not count", () -> {
            Plotwise p = usable(3);
            for (int c = 3; c < 6; c++) {
                p.force(c, QUANTITY);
            }
            due(p.costByTrying(0), p.cost(0));
        });
        test("20: a fourth column counts until it is CONSTANT or EMPTY", () -> {
            Plotwise p = usable(3);
            p.put(0, 4, 8);
            dueThrow("four", p, UNSUPPORTED, q -> q.costByTrying(0));
            p.put(0, 4, 7);
            due(p.costByTrying(0), p.cost(0));
            p.put(0, 3, 1);
            p.put(1, 3, 2);
            dueThrow("four again", p, UNSUPPORTED, q -> q.costByTrying(0));
            p.put(0, 3, GAP);
            p.put(1, 3, GAP);
            due(p.costByTrying(0), p.cost(0));
        });
    }

    private static void refusedCostsByTrying() {
        for (int columns = 4; columns <= 6; columns++) {
            int n = columns;
            refused("20: " + n + " columns are too many", UNSUPPORTED, () -> usable(n), p -> p.costByTrying(0));
            refused("20: " + n + " columns are told before no rank -1", UNSUPPORTED, () -> usable(n),
                    p -> p.costByTrying(-1));
            refused("20: " + n + " columns are told before no rank 5", UNSUPPORTED, () -> usable(n),
                    p -> p.costByTrying(5));
        }
        refused("20: too many columns are told before an empty ranking", UNSUPPORTED, Checks::richWithoutCharts,
                p -> p.costByTrying(0));
    }

    // ---- Order, and promise 38

    private static int[] chart(char mark, int aggregate, int x, int y, int colour, int size) {
        return new int[] {mark, aggregate, x, y, colour, size};
    }

    private static int rankOf(Plotwise p, int[] chart) {
        return rankOf(p, (char) chart[0], chart[1], chart[2], chart[3], chart[4], chart[5]);
    }

    private static boolean has(int[] chart, int column) {
        return chart[2] == column || chart[3] == column || chart[4] == column || chart[5] == column;
    }

    /** Leaves few charts beside the two, so that both are in the ranking. */
    private static void narrow(Plotwise p, int[] one, int[] two) {
        for (int column = 0; column < 6; column++) {
            p.wish(column, has(one, column) && has(two, column));
            for (int channel = 0; channel < 4; channel++) {
                if (one[2 + channel] != column && two[2 + channel] != column) {
                    p.forbid(column, channel);
                }
            }
        }
        if (one[0] == two[0]) {
            p.wishMark((char) one[0]);
        }
    }

    private static int placeInRanking(Plotwise p, int[] chart) {
        for (int rank = 0; rank < 5; rank++) {
            int r = rank;
            String found = answer(p, q -> ranked(q, r));
            String wanted = (char) chart[0] + "" + chart[1] + " " + chart[2] + " " + chart[3] + " " + chart[4] + " "
                    + chart[5];
            if (found.endsWith(":" + wanted)) {
                return rank;
            }
        }
        return -1;
    }

    /** Whether the one is better, though both cost the same, in draftRank as well as in the ranking. */
    private static void dueBetter(String name, Maker maker, int[] better, int[] worse) {
        test("Order: " + name, () -> {
            Plotwise p = maker.make();
            int first = rankOf(p, better);
            int cost = p.draftCost();
            int second = rankOf(p, worse);
            due("the cost", p.draftCost(), cost);
            due("better by draftRank", first < second, true);
            narrow(p, better, worse);
            due("the better one in the ranking", placeInRanking(p, better), rankOf(p, better));
            due("the worse one in the ranking", placeInRanking(p, worse), rankOf(p, worse));
            due("better in the ranking", placeInRanking(p, better) < placeInRanking(p, worse), true);
        });
    }

    /** Columns 0 to 5: TIME, TIME, QUANTITY, QUANTITY, CATEGORY, CATEGORY, in ten rows; nothing but kinds costs. */
    private static Plotwise pairs() {
        Plotwise p = new Plotwise();
        int[] some = {1, 9, 4, 7, 3, 8, 2, 6, 5, 0};
        for (int row = 0; row < 10; row++) {
            p.addRow(row, row * 2, some[row], some[9 - row], row % 5, row % 2);
        }
        for (int rule = 0; rule < 8; rule++) {
            p.setWeight(rule, 0);
        }
        return p;
    }

    private static void orderOfCostAndMark() {
        Maker t = RankingBoundaryTest::pairs;
        test("Order: the lower cost is better, whatever the mark, the aggregate and the columns are", () -> {
            Plotwise p = pairs();
            // MEAN, points and the higher columns cost 0, and bars with COUNT and the lowest column 1
            p.setWeight(7, 1);
            due(costOf(p, 'p', MEAN, 1, 3, NO, NO), 0);
            int better = p.draftRank();
            due(costOf(p, 'b', COUNT, 0, NO, NO, NO), 1);
            due(better < p.draftRank(), true);
        });
        dueBetter("'b' before 'l'", t, chart('b', NONE, 0, 2, NO, NO), chart('l', NONE, 0, 2, NO, NO));
        dueBetter("'l' before 'p'", t, chart('l', NONE, 0, 2, NO, NO), chart('p', NONE, 0, 2, NO, NO));
        dueBetter("'b' before 'p'", t, chart('b', NONE, 0, 2, NO, NO), chart('p', NONE, 0, 2, NO, NO));
        dueBetter("'b' before 'l', though its aggregate comes later", t, chart('b', MEAN, 0, 2, NO, NO),
                chart('l', NONE, 0, 2, NO, NO));
        dueBetter("'l' before 'p', though its X is higher", t, chart('l', NONE, 3, 2, NO, NO),
                chart('p', NONE, 2, 3, NO, NO));
    }

    private static void orderOfAggregates() {
        Maker t = RankingBoundaryTest::pairs;
        dueBetter("NONE before COUNT", t, chart('p', NONE, 0, NO, NO, NO), chart('p', COUNT, 0, NO, NO, NO));
        dueBetter("NONE before MEAN", t, chart('l', NONE, 0, 2, NO, NO), chart('l', MEAN, 0, 2, NO, NO));
        dueBetter("COUNT before MEAN", t, chart('l', COUNT, 0, NO, NO, NO), chart('l', MEAN, 0, 2, NO, NO));
        dueBetter("NONE before COUNT, though its columns are higher", t, chart('l', NONE, 1, 2, NO, NO),
                chart('l', COUNT, 0, NO, NO, NO));
        dueBetter("COUNT before MEAN, though its X is higher", t, chart('b', COUNT, 1, NO, NO, NO),
                chart('b', MEAN, 0, 2, NO, NO));
    }

    private static void orderOfColumns() {
        Maker t = RankingBoundaryTest::pairs;
        dueBetter("the lower X", t, chart('l', NONE, 0, 2, NO, NO), chart('l', NONE, 1, 2, NO, NO));
        dueBetter("the lower X, though its Y is higher", t, chart('l', NONE, 0, 3, NO, NO),
                chart('l', NONE, 1, 2, NO, NO));
        dueBetter("no X is lower than the column 0", t, chart('p', NONE, NO, 2, NO, NO),
                chart('p', NONE, 0, NO, NO, NO));
        dueBetter("the lower Y", t, chart('l', NONE, 0, 2, NO, NO), chart('l', NONE, 0, 3, NO, NO));
        dueBetter("the lower Y, though its COLOUR is higher", t, chart('l', NONE, 0, 2, 3, NO),
                chart('l', NONE, 0, 3, 2, NO));
        dueBetter("no Y is lower than the column 0", () -> {
            Plotwise p = pairs();
            p.force(0, CATEGORY);
            return p;
        }, chart('p', NONE, 1, NO, 0, NO), chart('p', NONE, 1, 0, NO, NO));
        dueBetter("the lower COLOUR", t, chart('p', NONE, 0, 2, 4, NO), chart('p', NONE, 0, 2, 5, NO));
        dueBetter("the lower COLOUR, though its SIZE is higher", () -> {
            Plotwise p = pairs();
            p.force(4, QUANTITY);
            p.force(5, QUANTITY);
            return p;
        }, chart('p', NONE, 0, 2, 4, 5), chart('p', NONE, 0, 2, 5, 4));
        dueBetter("no COLOUR is lower than the column 0", () -> {
            Plotwise p = pairs();
            p.force(0, CATEGORY);
            // with its ten values in COLOUR it costs as much as a column in SIZE
            p.setWeight(6, 1);
            return p;
        }, chart('p', NONE, 1, 2, NO, 3), chart('p', NONE, 1, 2, 0, NO));
        dueBetter("the lower SIZE", t, chart('p', NONE, 0, NO, NO, 2), chart('p', NONE, 0, NO, NO, 3));
        dueBetter("the lower SIZE, 0 to 5", () -> {
            Plotwise p = pairs();
            p.force(0, QUANTITY);
            p.force(5, QUANTITY);
            return p;
        }, chart('p', NONE, 1, 2, NO, 0), chart('p', NONE, 1, 2, NO, 5));
    }

    private static void theWholeOrder() {
        test("38: each place from the first one on", () -> {
            Plotwise p = new Plotwise();
            int[] some = {10, 30, 20, 50};
            for (int row = 0; row < 4; row++) {
                p.addRow(row, some[row], GAP, GAP, GAP, GAP);
            }
            int[][] order = {chart('b', MEAN, 0, 1, NO, NO), chart('l', NONE, 0, 1, NO, NO),
                chart('l', MEAN, 0, 1, NO, NO), chart('p', NONE, 0, 1, NO, NO), chart('b', COUNT, 0, NO, NO, NO),
                chart('l', COUNT, 0, NO, NO, NO), chart('p', NONE, NO, 1, NO, NO), chart('p', NONE, 0, NO, NO, NO),
                chart('l', COUNT, 1, NO, NO, NO), chart('p', NONE, 1, NO, NO, NO), chart('b', NONE, 0, 1, NO, NO),
                chart('p', NONE, NO, 0, NO, NO), chart('p', NONE, 1, 0, NO, NO), chart('p', MEAN, 0, 1, NO, NO),
                chart('p', NONE, 0, NO, NO, 1), chart('p', COUNT, 0, NO, NO, NO)};
            int[] costs = {0, 0, 0, 0, 1, 1, 1, 1, 2, 2, 3, 3, 3, 3, 4, 4};
            for (int i = 0; i < order.length; i++) {
                due("the rank of " + i, rankOf(p, order[i]), i);
                due("the cost of " + i, p.draftCost(), costs[i]);
            }
            for (int i = 0; i < 5; i++) {
                due("in the ranking", placeInRanking(p, order[i]), i);
            }
        });
    }

    private static void draftRanks() {
        test("38: 0 for the best", () -> due(rankOf(sample(), 'b', MEAN, 0, 3, NO, NO), 0));
        test("38: all others are better than the worst", () -> {
            Plotwise p = withValues(1, 2, 3, 4);
            due(rankOf(p, 'p', COUNT, 0, NO, NO, NO), p.allowed() - 1);
        });
        test("38: all others are better than the worst of six QUANTITY columns", () -> {
            Plotwise p = sixAlike(2, 1, 3);
            // points with COUNT, COLOUR and SIZE cost most, and the highest columns come last
            due(rankOf(p, 'p', COUNT, 5, NO, 4, 3), p.allowed() - 1);
        });
        test("38: the only chart", () -> {
            Plotwise p = withValues(1, 1, 2, 2);
            p.wishMark('b');
            due(rankOf(p, 'b', COUNT, 0, NO, NO, NO), 0);
        });
        test("38: the ranking stands in this order, and its ranks are told apart by it", () -> {
            Plotwise p = sample();
            for (int rank = 0; rank < 5; rank++) {
                due(rankOf(p, p.mark(rank), p.aggregate(rank), p.column(rank, 0), p.column(rank, 1),
                    p.column(rank, 2), p.column(rank, 3)), rank);
                due(p.draftCost(), p.cost(rank));
            }
        });
        refused("38: the draft of a new object", STATE, Plotwise::new, Plotwise::draftRank);
    }

    // ---- what was asked before a change shows nowhere after it

    private static void dueAtOnce(String name, Maker maker, Call change) {
        test("18 to 23 after " + name, () -> {
            Plotwise asked = maker.make();
            String before = ranking(asked);
            change.of(asked);
            Plotwise unasked = maker.make();
            change.of(unasked);
            due("the call shows", ranking(asked).equals(before), false);
            dueAlike(asked, unasked);
        });
    }

    private static void changesShowAtOnce() {
        Maker t = Checks::sample;
        dueAtOnce("addRow", t, p -> p.addRow(0, 0, 0, 0, 0, 9));
        dueAtOnce("dropRow", () -> withValues(1, 2, 3, 4), p -> p.dropRow(0));
        dueAtOnce("put", t, p -> p.put(0, 0, 9));
        dueAtOnce("force", t, p -> p.force(0, QUANTITY));
        dueAtOnce("unforce", () -> {
            Plotwise p = sample();
            p.force(0, QUANTITY);
            return p;
        }, p -> p.unforce(0));
        dueAtOnce("wish", t, p -> p.wish(2, true));
        dueAtOnce("wish no more", () -> {
            Plotwise p = sample();
            p.wish(2, true);
            return p;
        }, p -> p.wish(2, false));
        dueAtOnce("wishMark", t, p -> p.wishMark('p'));
        dueAtOnce("wishMark for none", () -> {
            Plotwise p = sample();
            p.wishMark('p');
            return p;
        }, p -> p.wishMark('-'));
        dueAtOnce("forbid", t, p -> p.forbid(0, X));
        dueAtOnce("allow", () -> {
            Plotwise p = sample();
            p.forbid(0, X);
            return p;
        }, p -> p.allow(0, X));
        dueAtOnce("setWeight", () -> {
            Plotwise p = sample();
            p.wishMark('b');
            return p;
        }, p -> p.setWeight(0, 0));
        test("18 to 23: questions change nothing", () -> {
            Plotwise p = rich();
            asked(p);
            dueAlike(p, rich());
        });
        test("18 to 23: a draft and a pick change no ranking", () -> {
            Plotwise p = sample();
            String before = ranking(p) + p.allowed();
            draft(p, 'p', NONE, 0, 3, 1, 4);
            p.pick();
            p.setMargin(99);
            due(ranking(p) + p.allowed(), before);
        });
    }

    // ---- promise 39

    private static void dueSound(String name, Maker maker) {
        test("39: " + name, () -> due(maker.make().isSound(), true));
    }

    private static void sound() {
        dueSound("no rows", Plotwise::new);
        dueSound("no chart is allowed", Checks::richWithoutCharts);
        dueSound("four charts", () -> withValues(1, 1, 2, 2));
        dueSound("five charts", () -> withValues(1, 2, 3, 4));
        dueSound("six charts", RankingBoundaryTest::sixCharts);
        dueSound("40 rows", () -> tall(40));
        for (int columns = 1; columns <= 6; columns++) {
            int n = columns;
            dueSound(n + " columns to try", () -> usable(n));
            dueSound(n + " columns to try, the weights 0", () -> weighted(n, 0));
            dueSound(n + " columns to try, the weights 99", () -> weighted(n, 99));
        }
        dueSound("six QUANTITY", () -> sixAlike(2, 1, 3));
        dueSound("six TIME", () -> sixAlike(1, 2, 3, 4));
        dueSound("six CATEGORY", () -> sixAlike(1, 1, 2, 2));
        dueSound("wishes, rules and picks", Checks::rich);
        dueSound("equal costs", RankingBoundaryTest::pairs);
    }

    private static Plotwise weighted(int columns, int weight) {
        Plotwise p = usable(columns);
        for (int rule = 0; rule < 8; rule++) {
            p.setWeight(rule, weight);
        }
        return p;
    }

    // ---- the 512 calls of an object

    private static void manyCalls() {
        test("an object answers its 512th call", () -> {
            Plotwise p = usable(6);
            for (int call = 7; call < 512; call++) {
                switch (call % 5) {
                    case 0: p.allowed(); break;
                    case 1: p.isSound(); break;
                    case 2: p.put(0, 0, -call); break;
                    case 3: p.cost(0); break;
                    default: p.setWeight(call % 8, call % 100); break;
                }
            }
            due(p.allowed(), usable(6).allowed());
        });
        test("40 rows come and go", () -> {
            Plotwise p = new Plotwise();
            for (int call = 0; call < 40; call++) {
                p.addRow(call, call, call, call, call, call);
            }
            for (int call = 0; call < 200; call++) {
                due(p.dropRow(call % 40), 39);
                due(p.addRow(call + 40, 0, 0, 0, 0, 0), 40);
            }
            due(p.rows(), 40);
        });
    }
}
