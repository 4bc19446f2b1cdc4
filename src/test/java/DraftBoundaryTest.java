/** The boundary cases of the promises 32 to 34: each sentence has its own test. */
public final class DraftBoundaryTest extends Checks {
    public static void main(String[] args) {
        marks();
        aggregates();
        columns();
        movedColumns();
        refusedColumns();
        finish();
    }

    // ---- promise 32

    private static void marks() {
        test("32: each mark, and the one before", () -> {
            Plotwise p = new Plotwise();
            due(p.draftMark('b'), 'b');
            due(p.draftMark('l'), 'b');
            due(p.draftMark('p'), 'l');
            due(p.draftMark('p'), 'p');
            due(p.draftMark('b'), 'p');
            dueAlike(p, new Plotwise());
        });
        test("32: the rest of the draft stays", () -> {
            Plotwise p = new Plotwise();
            draft(p, 'b', MEAN, 5, 4, 3, 2);
            p.draftMark('p');
            due(drafted(p), "p2 5 4 3 2");
        });
        for (char bad : new char[] {'-', 'a', 'c', 'k', 'm', 'o', 'q', 'B', 'L', 'P', ' ', 0, 'b' + 128, 'l' + 128,
            'p' + 128, 'b' + 256, 'l' + 256, 'p' + 256, 0xffff}) {
            refused("32: no mark " + (int) bad, ARGUMENT, Checks::rich, p -> p.draftMark(bad));
            refused("32: no mark " + (int) bad + " in a new draft", ARGUMENT, Plotwise::new, p -> p.draftMark(bad));
        }
    }

    // ---- promise 33

    private static void aggregates() {
        test("33: each aggregate, and the one before", () -> {
            Plotwise p = new Plotwise();
            due(p.draftAggregate(NONE), NONE);
            due(p.draftAggregate(COUNT), NONE);
            due(p.draftAggregate(MEAN), COUNT);
            due(p.draftAggregate(MEAN), MEAN);
            due(p.draftAggregate(NONE), MEAN);
            dueAlike(p, new Plotwise());
        });
        test("33: the rest of the draft stays", () -> {
            Plotwise p = new Plotwise();
            draft(p, 'l', MEAN, 5, 4, 3, 2);
            p.draftAggregate(COUNT);
            due(drafted(p), "l1 5 4 3 2");
        });
        for (int bad : new int[] {-1, 3, 4, MIN, MAX}) {
            refused("33: no aggregate " + bad, ARGUMENT, Checks::rich, p -> p.draftAggregate(bad));
            refused("33: no aggregate " + bad + " in a new draft", ARGUMENT, Plotwise::new, p -> p.draftAggregate(bad));
        }
    }

    // ---- promise 34

    private static void columns() {
        for (int channel = 0; channel < 4; channel++) {
            int ch = channel;
            test("34: each column and none in the channel " + ch, () -> {
                Plotwise p = new Plotwise();
                int before = NO;
                for (int column = 0; column < 6; column++) {
                    due(p.draftColumn(ch, column), before);
                    before = column;
                }
                due(p.draftColumn(ch, 5), 5);
                due(p.draftColumn(ch, NO), 5);
                due(p.draftColumn(ch, NO), NO);
                dueAlike(p, new Plotwise());
            });
            test("34: the other channels stay when one is the channel " + ch, () -> {
                Plotwise p = new Plotwise();
                draft(p, 'l', COUNT, 0, 1, 2, 3);
                int[] want = {0, 1, 2, 3};
                p.draftColumn(ch, 5);
                want[ch] = 5;
                due(drafted(p), "l1 " + want[0] + " " + want[1] + " " + want[2] + " " + want[3]);
            });
        }
        test("34: an EMPTY and a CONSTANT column are columns", () -> {
            Plotwise p = oneOfEach();
            p.draftColumn(X, 5);
            p.draftColumn(Y, 4);
            due(drafted(p), "b0 5 4 -1 -1");
        });
        test("34: all channels without a column", () -> {
            Plotwise p = rich();
            for (int ch = 0; ch < 4; ch++) {
                p.draftColumn(ch, NO);
                due("twice", p.draftColumn(ch, NO), NO);
            }
            due(drafted(p), "p2 -1 -1 -1 -1");
        });
    }

    private static void movedColumns() {
        test("34: a column can go to another channel once it is taken from the first", () -> {
            Plotwise p = new Plotwise();
            p.draftColumn(X, 0);
            dueThrow("too early", p, STATE, q -> q.draftColumn(Y, 0));
            due(p.draftColumn(X, NO), 0);
            due(p.draftColumn(Y, 0), NO);
            due(drafted(p), "b0 -1 0 -1 -1");
        });
        test("34: or once another one has taken its place", () -> {
            Plotwise p = new Plotwise();
            p.draftColumn(X, 0);
            due(p.draftColumn(X, 1), 0);
            due(p.draftColumn(SIZE, 0), NO);
            due(drafted(p), "b0 1 -1 -1 0");
        });
        test("34: the same column into the same channel", () -> {
            Plotwise p = rich();
            due(p.draftColumn(Y, 3), 3);
            dueAlike(p, rich());
        });
    }

    /** A draft whose channels X, Y, COLOUR and SIZE have the columns 5, 0, 3 and 2. */
    private static Plotwise filled() {
        Plotwise p = rich();
        draft(p, 'p', MEAN, 5, 0, 3, 2);
        return p;
    }

    private static void refusedColumns() {
        int[] in = {5, 0, 3, 2};
        for (int from = 0; from < 4; from++) {
            for (int to = 0; to < 4; to++) {
                int column = in[from];
                int channel = to;
                if (from != to) {
                    refused("34: the column of the channel " + from + " into the channel " + to, STATE,
                            DraftBoundaryTest::filled, p -> p.draftColumn(channel, column));
                }
            }
        }
        refused("34: a column that is in another channel into one without a column", STATE, Checks::rich,
                p -> p.draftColumn(SIZE, 0));
        for (int bad : NO_CHANNELS) {
            refused("34: no channel " + bad, INDEX, Checks::rich, p -> p.draftColumn(bad, 5));
            refused("34: no channel " + bad + " to take from", INDEX, Checks::rich, p -> p.draftColumn(bad, NO));
            refused("34: no channel " + bad + " is told before a column that is elsewhere", INDEX, Checks::rich,
                    p -> p.draftColumn(bad, 3));
        }
        for (int bad : new int[] {-2, 6, 7, MIN, MAX}) {
            refused("34: no column " + bad, INDEX, Checks::rich, p -> p.draftColumn(SIZE, bad));
            refused("34: no column " + bad + " where there is one", INDEX, Checks::rich, p -> p.draftColumn(X, bad));
            refused("34: no column " + bad + " and no channel", INDEX, Checks::rich, p -> p.draftColumn(4, bad));
        }
    }
}
