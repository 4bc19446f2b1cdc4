/** The boundary cases of the promises 24 to 31, with the term "Picks": each sentence has its own test. */
public final class PicksBoundaryTest extends Checks {
    public static void main(String[] args) {
        margins();
        firstPicks();
        picksAtTheMargin();
        picksThatAreNotAllowed();
        questionsOfThePick();
        refusedQuestions();
        formerPicks();
        goingBack();
        refusedGoingBack();
        forgetting();
        finish();
    }

    // ---- promise 24

    private static void margins() {
        test("24: 0 and 99 are taken, and the one before is told", () -> {
            Plotwise p = new Plotwise();
            due(p.setMargin(0), 3);
            due(p.setMargin(99), 0);
            due(p.setMargin(98), 99);
            due(p.setMargin(3), 98);
            dueAlike(p, new Plotwise());
        });
        for (int bad : new int[] {-1, 100, MIN, MAX}) {
            refused("24: no margin " + bad, ARGUMENT, Checks::rich, p -> p.setMargin(bad));
            refused("24: no margin " + bad + " in place of the first one", ARGUMENT, Plotwise::new,
                    p -> p.setMargin(bad));
        }
    }

    // ---- promise 25

    private static void firstPicks() {
        test("25: the first pick is the best chart, and there is no former one", () -> {
            Plotwise p = sample();
            due(p.pick(), true);
            due(picked(p), "b2 0 3 -1 -1");
            due(p.formerPicks(), 0);
        });
        test("25: the best chart stays", () -> {
            Plotwise p = sample();
            p.setMargin(0);
            p.pick();
            due(p.pick(), false);
            due(picked(p), "b2 0 3 -1 -1");
            due(p.formerPicks(), 0);
        });
        test("25: the only chart that is allowed", () -> {
            Plotwise p = withValues(1, 1, 2, 2);
            p.wishMark('b');
            due(p.pick(), true);
            due(picked(p), "b1 0 -1 -1 -1");
        });
        refused("25: no rows", NO_ELEMENT, Plotwise::new, Plotwise::pick);
        refused("25: no chart is allowed, and there is no pick", NO_ELEMENT, () -> {
            Plotwise p = sample();
            p.wish(5, true);
            return p;
        }, Plotwise::pick);
        refused("25: no chart is allowed, and there are a pick and former ones", NO_ELEMENT,
                Checks::richWithoutCharts, Plotwise::pick);
    }

    /** The pick is 'p' NONE of 0 and 1, which costs so much, while the best chart is 'b' MEAN of 0 and 1 and costs 0. */
    private static Plotwise pickThatCosts(int cost) {
        Plotwise p = new Plotwise();
        for (int row = 0; row < 21; row++) {
            p.addRow(row, row * 7 % 23, GAP, GAP, GAP, GAP);
        }
        p.setWeight(3, 0);
        p.wishMark('p');
        p.pick();
        p.wishMark('-');
        // points with more than 20 rows
        p.setWeight(3, cost);
        return p;
    }

    /** As above, but the pick has the columns the other way round, and costs 3 more than the weight. */
    private static Plotwise pickThatCosts3And(int weight) {
        Plotwise p = pickThatCosts(0);
        p.wishMark('p');
        p.wish(0, true);
        p.wish(1, true);
        p.forbid(0, X);
        p.pick();
        p.allow(0, X);
        p.wish(0, false);
        p.wish(1, false);
        p.wishMark('-');
        p.setWeight(3, weight);
        return p;
    }

    private static void dueStays(String name, Maker maker) {
        test("25: " + name + ": it stays", () -> {
            Plotwise p = maker.make();
            String pick = picked(p);
            int former = p.formerPicks();
            due(p.pick(), false);
            due(picked(p), pick);
            due(p.formerPicks(), former);
        });
    }

    private static void dueGoes(String name, Maker maker) {
        test("25: " + name + ": the best one comes", () -> {
            Plotwise p = maker.make();
            String pick = picked(p);
            int former = p.formerPicks();
            due(p.pick(), true);
            due(picked(p), "b2 0 1 -1 -1");
            due(p.formerPicks(), former + 1);
            p.unpick();
            due("the former one", picked(p), pick);
        });
    }

    private static Plotwise withMargin(Plotwise p, int margin) {
        p.setMargin(margin);
        return p;
    }

    private static void picksAtTheMargin() {
        test("25: the pick of these tests", () -> {
            due(picked(pickThatCosts(3)), "p0 0 1 -1 -1");
            due(picked(pickThatCosts3And(0)), "p0 1 0 -1 -1");
            due(ranked(pickThatCosts(0), 0), "0:b2 0 1 -1 -1");
        });
        dueStays("it costs 3 more, the margin at first", () -> pickThatCosts(3));
        dueGoes("it costs 4 more", () -> pickThatCosts(4));
        dueStays("it costs as much as the best one, the margin is 0", () -> withMargin(pickThatCosts(0), 0));
        dueGoes("it costs 1 more, the margin is 0", () -> withMargin(pickThatCosts(1), 0));
        dueStays("it costs 99 more, the margin is 99", () -> withMargin(pickThatCosts3And(96), 99));
        dueGoes("it costs 100 more, the margin is 99", () -> withMargin(pickThatCosts3And(97), 99));
        dueStays("it costs 98 more, the margin is 98", () -> withMargin(pickThatCosts(98), 98));
        dueGoes("it costs 99 more, the margin is 98", () -> withMargin(pickThatCosts(99), 98));
        dueStays("it costs 4 and the best one 1", () -> withFiveGaps(pickThatCosts(3)));
        dueGoes("it costs 5 and the best one 1", () -> withFiveGaps(pickThatCosts(4)));
        test("25: it costs as much as the second best, and 1 more than the best one", () -> {
            Plotwise p = withValues(2, 1);
            p.wishMark('l');
            p.pick();
            p.wishMark('-');
            due(ranking(p), "1:p0 -1 0 -1 -1, 2:l1 0 -1 -1 -1, 2:p0 0 -1 -1 -1, 5:p1 0 -1 -1 -1");
            p.setMargin(1);
            due(p.pick(), false);
            p.setMargin(0);
            due(p.pick(), true);
            due(picked(p), "p0 -1 0 -1 -1");
        });
        test("25: the margin of now counts", () -> {
            Plotwise p = pickThatCosts(5);
            p.setMargin(5);
            due(p.pick(), false);
            p.setMargin(4);
            due(p.pick(), true);
        });
    }

    private static Plotwise withFiveGaps(Plotwise p) {
        for (int row = 0; row < 5; row++) {
            p.put(row, 0, GAP);
        }
        return p;
    }

    private static void picksThatAreNotAllowed() {
        dueGoes("its mark is not the wished one", () -> {
            Plotwise p = pickThatCosts(0);
            p.wishMark('b');
            return p;
        });
        dueGoes("its columns are forbidden for the channels", () -> {
            Plotwise p = pickThatCosts3And(0);
            p.forbid(1, X);
            return p;
        });
        dueStays("its columns are forbidden for other channels", () -> {
            Plotwise p = pickThatCosts(0);
            p.forbid(1, X);
            p.forbid(0, Y);
            return p;
        });
        test("25: its column has become CONSTANT", () -> {
            Plotwise p = sample();
            p.pick();
            for (int row = 0; row < 6; row++) {
                p.put(row, 3, 4);
            }
            due(p.pick(), true);
            due(picked(p), "b2 0 4 -1 -1");
            due(p.formerPicks(), 1);
        });
    }

    // ---- promises 26 to 28

    private static void questionsOfThePick() {
        test("26: each mark", () -> {
            Plotwise p = sample();
            for (char mark : new char[] {'b', 'l', 'p'}) {
                p.wishMark(mark);
                p.pick();
                due(p.pickMark(), mark);
            }
        });
        test("27: each aggregate", () -> {
            Plotwise p = sample();
            p.pick();
            due(p.pickAggregate(), MEAN);
            p.wishMark('l');
            p.pick();
            due(p.pickAggregate(), NONE);
            Plotwise q = withValues(1, 1, 2, 2);
            q.pick();
            due(q.pickAggregate(), COUNT);
        });
        test("28: each channel, with a column and without", () -> {
            Plotwise p = sample();
            p.pick();
            due(join(p.pickColumn(X), p.pickColumn(Y), p.pickColumn(COLOUR), p.pickColumn(SIZE)), join(0, 3, NO, NO));
            for (int c = 1; c < 5; c++) {
                p.wish(c, true);
            }
            p.pick();
            due(join(p.pickColumn(X), p.pickColumn(Y), p.pickColumn(COLOUR), p.pickColumn(SIZE)), join(1, 3, 2, 4));
        });
        test("26 to 28: the pick is told though it is not allowed now", () -> {
            Plotwise p = sample();
            p.pick();
            p.wishMark('l');
            due("another mark is wished for", picked(p), "b2 0 3 -1 -1");
            p.forbid(0, X);
            due("a pair is forbidden", picked(p), "b2 0 3 -1 -1");
            while (p.rows() > 0) {
                p.dropRow(0);
            }
            due("there are no rows", picked(p), "b2 0 3 -1 -1");
        });
    }

    private static void refusedQuestions() {
        refused("26: no pick", STATE, Checks::sample, Plotwise::pickMark);
        refused("27: no pick", STATE, Checks::sample, Plotwise::pickAggregate);
        for (int channel = 0; channel < 4; channel++) {
            int ch = channel;
            refused("28: no pick, channel " + ch, STATE, Checks::sample, p -> p.pickColumn(ch));
        }
        for (int bad : NO_CHANNELS) {
            refused("28: no channel " + bad, INDEX, Checks::rich, p -> p.pickColumn(bad));
            refused("28: no channel " + bad + " is told before no pick", INDEX, Checks::sample,
                    p -> p.pickColumn(bad));
        }
        Maker afterRefusal = () -> {
            Plotwise p = new Plotwise();
            answer(p, Plotwise::pick);
            return p;
        };
        refused("26: no pick after a call that was refused", STATE, afterRefusal, Plotwise::pickMark);
    }

    // ---- promises 29 and 30

    private static final String[] PICKS = {"b2 0 3 -1 -1", "b2 0 4 -1 -1", "l0 0 3 -1 -1", "l0 0 4 -1 -1",
        "p0 0 3 -1 -1", "p0 0 4 -1 -1"};

    /** The sample, where so many of the picks above were made, one after the other. */
    private static Plotwise picks(int number) {
        Plotwise p = sample();
        for (int i = 0; i < number; i++) {
            p.wishMark(PICKS[i].charAt(0));
            p.wish(3, i % 2 == 0);
            p.wish(4, i % 2 == 1);
            p.pick();
        }
        p.wishMark('-');
        p.wish(3, false);
        p.wish(4, false);
        return p;
    }

    private static void formerPicks() {
        for (int number = 0; number <= 6; number++) {
            int n = number;
            test("29: " + n + " picks", () -> {
                Plotwise p = picks(n);
                due(p.formerPicks(), n == 0 ? 0 : Math.min(n - 1, 4));
                if (n > 0) {
                    due(picked(p), PICKS[n - 1]);
                }
            });
        }
        test("29: the same chart can be a former pick more than once", () -> {
            Plotwise p = sample();
            for (char mark : new char[] {'b', 'l', 'b', 'l', 'b', 'l'}) {
                p.wishMark(mark);
                due(p.pick(), true);
            }
            due(p.formerPicks(), 4);
            String s = "";
            for (int i = 0; i < 4; i++) {
                p.unpick();
                s += p.pickMark();
            }
            due(s, "blbl");
        });
    }

    private static void goingBack() {
        test("30: four former picks, the latest of them first", () -> {
            Plotwise p = picks(5);
            for (int left = 3; left >= 0; left--) {
                due(p.unpick(), left);
                due(p.formerPicks(), left);
                due(picked(p), PICKS[left]);
            }
        });
        test("30: of five former picks the earliest is not kept", () -> {
            Plotwise p = picks(6);
            for (int left = 3; left >= 0; left--) {
                due(p.unpick(), left);
                due(picked(p), PICKS[left + 1]);
            }
            dueThrow("the fifth", p, STATE, Plotwise::unpick);
        });
        test("30: the present pick is not kept", () -> {
            Plotwise p = picks(2);
            due(p.unpick(), 0);
            due(picked(p), PICKS[0]);
            due(p.formerPicks(), 0);
        });
        test("30: the pick that came back is kept when another comes", () -> {
            Plotwise p = picks(3);
            p.unpick();
            p.wishMark('p');
            due(p.pick(), true);
            due(p.formerPicks(), 2);
            p.unpick();
            due(picked(p), PICKS[1]);
            p.unpick();
            due(picked(p), PICKS[0]);
        });
        test("30: after four and one back, one more makes four", () -> {
            Plotwise p = picks(6);
            p.unpick();
            p.wishMark('b');
            p.pick();
            due(p.formerPicks(), 4);
            for (int i = 4; i >= 1; i--) {
                p.unpick();
                due(picked(p), PICKS[i]);
            }
        });
        test("30: to one that is not allowed now", () -> {
            Plotwise p = picks(2);
            p.forbid(3, Y);
            due(p.unpick(), 0);
            due(picked(p), PICKS[0]);
        });
        test("30: to one when no chart is allowed", () -> {
            Plotwise p = picks(2);
            p.wish(5, true);
            due(p.unpick(), 0);
            due(picked(p), PICKS[0]);
        });
    }

    private static void refusedGoingBack() {
        refused("30: there is no pick", STATE, Plotwise::new, Plotwise::unpick);
        refused("30: there is the pick alone", STATE, () -> picks(1), Plotwise::unpick);
        refused("30: the last former pick has become the pick", STATE, () -> {
            Plotwise p = picks(2);
            p.unpick();
            return p;
        }, Plotwise::unpick);
        refused("30: all former picks are forgotten", STATE, () -> {
            Plotwise p = picks(5);
            p.wish(5, true);
            p.forget();
            return p;
        }, Plotwise::unpick);
    }

    // ---- promise 31

    private static void forgetting() {
        test("31: no pick", () -> {
            Plotwise p = new Plotwise();
            due(p.forget(), 0);
            dueAlike(p, new Plotwise());
        });
        test("31: the pick alone, allowed or not, is not forgotten", () -> {
            Plotwise p = picks(1);
            due(p.forget(), 0);
            p.wish(5, true);
            due(p.forget(), 0);
            due(picked(p), PICKS[0]);
        });
        test("31: four that are allowed", () -> {
            Plotwise p = picks(5);
            due(p.forget(), 0);
            dueAlike(p, picks(5));
        });
        test("31: four that are not allowed, and a pick that is not either", () -> {
            Plotwise p = picks(5);
            p.wish(5, true);
            due(p.forget(), 4);
            due(p.formerPicks(), 0);
            due(picked(p), PICKS[4]);
            due("again", p.forget(), 0);
        });
        test("31: the first and the third are left, in their order", () -> {
            Plotwise p = picks(5);
            p.wish(4, true);
            due(p.forget(), 2);
            due(p.formerPicks(), 2);
            due(p.unpick(), 1);
            due(picked(p), PICKS[3]);
            due(p.unpick(), 0);
            due(picked(p), PICKS[1]);
        });
        test("31: the second and the fourth are left, in their order", () -> {
            Plotwise p = picks(5);
            p.wish(3, true);
            due(p.forget(), 2);
            due(p.unpick(), 1);
            due(picked(p), PICKS[2]);
            due(p.unpick(), 0);
            due(picked(p), PICKS[0]);
        });
        test("31: the latest alone is forgotten", () -> {
            Plotwise p = picks(2);
            p.forbid(3, Y);
            due(p.forget(), 1);
            due(picked(p), PICKS[1]);
        });
        test("31: what is forgotten does not come back when it is allowed again", () -> {
            Plotwise p = picks(5);
            p.wish(4, true);
            p.forget();
            p.wish(4, false);
            due(p.forget(), 0);
            due(p.formerPicks(), 2);
        });
        test("31: the cost does not matter", () -> {
            Plotwise p = pickThatCosts(99);
            p.setMargin(0);
            p.pick();
            due(p.forget(), 0);
            due(p.formerPicks(), 1);
        });
        test("31: after it there is room for four again", () -> {
            Plotwise p = picks(5);
            p.wish(4, true);
            p.forget();
            p.wish(4, false);
            for (int i = 0; i < 3; i++) {
                p.wishMark("blp".charAt(i));
                p.pick();
            }
            due(p.formerPicks(), 4);
        });
    }
}
