import java.util.ArrayList;
import java.util.Comparator;
import java.util.List;
import java.util.NoSuchElementException;
import java.util.Random;
import java.util.concurrent.Callable;

/** Long runs of calls, compared with a second program that is written from the document alone and tries all charts. */
public final class ModelTest {
    private static final int RUNS = 120;
    private static final int CALLS = 512;
    private static final int MISSING = Plotwise.MISSING;
    private static final int CONSTANT_STYLE = 6;

    public static void main(String[] args) {
        int wrong = 0;
        for (int run = 0; run < RUNS && wrong < 5; run++) {
            if (!runsAlike(run)) {
                wrong++;
            }
        }
        System.out.println(wrong == 0 ? RUNS + " runs are alike" : wrong + " runs are not alike");
        if (wrong != 0) {
            System.exit(1);
        }
    }

    private static boolean runsAlike(int run) {
        Random random = new Random(7000 + run);
        Plotwise program = new Plotwise();
        Model model = new Model();
        int[] styles = new int[6];
        for (int c = 0; c < 6; c++) {
            // some runs have few columns that can be used, so that all charts may be tried
            styles[c] = run % 3 == 0 && c >= 3 ? CONSTANT_STYLE : random.nextInt(7);
        }
        int rowsAtFirst = random.nextInt(41);
        List<Call> planned = new ArrayList<>();
        for (int i = 0; i < CALLS; i++) {
            if (planned.isEmpty() && i > rowsAtFirst && random.nextInt(20) == 0) {
                planToDraft(random, model, planned);
            }
            Call call = !planned.isEmpty() ? planned.remove(0)
                : i < rowsAtFirst ? addRow(random, styles, i) : anyCall(random, styles, i);
            String got = answer(() -> call.of(program));
            String want = answer(() -> call.of(model));
            if (!got.equals(want)) {
                System.out.println("run " + run + ", call " + i + ": " + call.text + " answered " + got + ", due is "
                        + want);
                return false;
            }
        }
        return true;
    }

    private static String answer(Callable<?> call) {
        try {
            return String.valueOf(call.call());
        } catch (Exception e) {
            return "throws." + e.getClass().getName();
        }
    }

    // ---- the calls

    private abstract static class Call {
        final String text;

        Call(String text) {
            this.text = text;
        }

        abstract Object of(Plotwise p);

        abstract Object of(Model m);
    }

    private interface OnProgram {
        Object of(Plotwise p);
    }

    private interface OnModel {
        Object of(Model m);
    }

    private static Call call(String text, OnProgram onProgram, OnModel onModel) {
        return new Call(text) {
            @Override
            Object of(Plotwise p) {
                return onProgram.of(p);
            }

            @Override
            Object of(Model m) {
                return onModel.of(m);
            }
        };
    }

    /** Plans the calls that make the draft one of the charts that are allowed, and ask about it. */
    private static void planToDraft(Random random, Model model, List<Call> planned) {
        if (model.ranked().isEmpty()) {
            return;
        }
        Drawn d = model.ranked().get(random.nextInt(model.ranked().size()));
        planned.add(draftMark(d.mark));
        planned.add(draftAggregate(d.aggregate));
        for (int channel = 0; channel < 4; channel++) {
            planned.add(draftColumn(channel, -1));
        }
        for (int channel = 0; channel < 4; channel++) {
            planned.add(draftColumn(channel, d.in[channel]));
        }
        for (int question = 0; question < 5; question++) {
            planned.add(draftQuestion(question));
        }
    }

    private static int value(Random random, int style, int time) {
        if (random.nextInt(12) == 0) {
            return MISSING;
        }
        switch (style) {
            case 0: return time * 3 + 1;
            case 1: return random.nextInt(3);
            case 2: return random.nextInt(6) * 100;
            case 3: return random.nextInt(19999) - 9999;
            case 4: return random.nextInt(8) == 0 ? 1 : 0;
            case 5: return random.nextBoolean() ? MISSING : random.nextInt(200) - 100;
            default: return 42;
        }
    }

    private static int column(Random random) {
        return random.nextInt(25) == 0 ? random.nextInt(12) - 3 : random.nextInt(6);
    }

    private static int channel(Random random) {
        return random.nextInt(25) == 0 ? random.nextInt(9) - 3 : random.nextInt(4);
    }

    private static int rank(Random random) {
        return random.nextInt(7) - (random.nextInt(20) == 0 ? 3 : 0);
    }

    private static Call addRow(Random random, int[] styles, int time) {
        int[] v = new int[6];
        for (int c = 0; c < 6; c++) {
            v[c] = value(random, styles[c], time);
        }
        if (random.nextInt(30) == 0) {
            v[random.nextInt(6)] = random.nextBoolean() ? 10000 : -10001;
        }
        return call("addRow(" + v[0] + ", " + v[1] + ", " + v[2] + ", " + v[3] + ", " + v[4] + ", " + v[5] + ")",
            p -> p.addRow(v[0], v[1], v[2], v[3], v[4], v[5]), m -> m.addRow(v));
    }

    private static Call anyCall(Random random, int[] styles, int time) {
        switch (random.nextInt(6)) {
            case 0: return tableCall(random, styles, time);
            case 1: return ruleCall(random);
            case 2: return rankingCall(random);
            case 3: return pickCall(random);
            case 4: return draftChange(random);
            default: return draftQuestion(random.nextInt(5));
        }
    }

    private static Call tableCall(Random random, int[] styles, int time) {
        int c = column(random);
        int row = random.nextInt(44) - 2;
        int style = c >= 0 && c < 6 ? styles[c] : CONSTANT_STYLE;
        int v = random.nextInt(30) == 0 ? 20000 : value(random, style, time);
        int kind = random.nextInt(20) == 0 ? random.nextInt(8) - 2 : 2 + random.nextInt(3);
        switch (random.nextInt(13)) {
            case 0: case 1: return addRow(random, styles, time);
            case 2: return call("dropRow(" + row + ")", p -> p.dropRow(row), m -> m.dropRow(row));
            case 3: case 4: return call("put(" + row + ", " + c + ", " + v + ")", p -> p.put(row, c, v),
                m -> m.put(row, c, v));
            case 5: return call("rows()", p -> p.rows(), m -> m.rows.size());
            case 6: return call("different(" + c + ")", p -> p.different(c), m -> m.different(m.checked(c)));
            case 7: return call("sumOf(" + c + ")", p -> p.sumOf(c), m -> m.sum(m.checked(c)));
            case 8: return call("meanOf(" + c + ")", p -> p.meanOf(c), m -> m.meanOf(c));
            case 9: return call("filled(" + c + ")", p -> p.filled(c), m -> m.filled(c));
            case 10: return call("kindOf(" + c + ")", p -> p.kindOf(c), m -> m.kind(m.checked(c)));
            case 11: return call("force(" + c + ", " + kind + ")", p -> p.force(c, kind), m -> m.force(c, kind));
            default: return call("unforce(" + c + ")", p -> p.unforce(c), m -> m.unforce(c));
        }
    }

    private static Call ruleCall(Random random) {
        int c = column(random);
        int ch = channel(random);
        boolean isWished = random.nextInt(5) == 0;
        char mark = "blp----x".charAt(random.nextInt(8));
        int rule = random.nextInt(20) == 0 ? random.nextInt(14) - 3 : random.nextInt(8);
        int weight = random.nextInt(10) == 0 ? random.nextInt(120) - 10 : random.nextInt(8);
        switch (random.nextInt(6)) {
            case 0: case 1: return call("wish(" + c + ", " + isWished + ")", p -> p.wish(c, isWished),
                m -> m.wish(c, isWished));
            case 2: return call("wishMark(" + mark + ")", p -> p.wishMark(mark), m -> m.wishMark(mark));
            case 3: return call("forbid(" + c + ", " + ch + ")", p -> p.forbid(c, ch), m -> m.forbid(c, ch));
            case 4: return call("allow(" + c + ", " + ch + ")", p -> p.allow(c, ch), m -> m.allow(c, ch));
            default: return call("setWeight(" + rule + ", " + weight + ")", p -> p.setWeight(rule, weight),
                m -> m.setWeight(rule, weight));
        }
    }

    private static Call rankingCall(Random random) {
        int r = rank(random);
        int ch = channel(random);
        switch (random.nextInt(7)) {
            case 0: return call("allowed()", p -> p.allowed(), m -> m.ranked().size());
            case 1: return call("cost(" + r + ")", p -> p.cost(r), m -> m.cost(m.at(r)));
            case 2: return call("costByTrying(" + r + ")", p -> p.costByTrying(r), m -> m.costByTrying(r));
            case 3: return call("mark(" + r + ")", p -> p.mark(r), m -> m.at(r).mark);
            case 4: return call("aggregate(" + r + ")", p -> p.aggregate(r), m -> m.at(r).aggregate);
            default: return call("column(" + r + ", " + ch + ")", p -> p.column(r, ch),
                m -> m.at(r).in[m.checkedChannel(ch)]);
        }
    }

    private static Call pickCall(Random random) {
        int ch = channel(random);
        int margin = random.nextInt(10) == 0 ? random.nextInt(120) - 10 : random.nextInt(5);
        switch (random.nextInt(12)) {
            case 0: return call("setMargin(" + margin + ")", p -> p.setMargin(margin), m -> m.setMargin(margin));
            case 1: case 2: case 3: return call("pick()", p -> p.pick(), m -> m.pick());
            case 4: return call("pickMark()", p -> p.pickMark(), m -> m.checkedPick().mark);
            case 5: return call("pickAggregate()", p -> p.pickAggregate(), m -> m.checkedPick().aggregate);
            case 6: case 7: return call("pickColumn(" + ch + ")", p -> p.pickColumn(ch), m -> m.pickColumn(ch));
            case 8: case 9: return call("formerPicks()", p -> p.formerPicks(), m -> m.former.size());
            case 10: return call("unpick()", p -> p.unpick(), m -> m.unpick());
            default: return call("forget()", p -> p.forget(), m -> m.forget());
        }
    }

    private static Call draftChange(Random random) {
        int ch = channel(random);
        int c = random.nextInt(3) == 0 ? -1 : column(random);
        char mark = "blpblpblpblp-".charAt(random.nextInt(13));
        int aggregate = random.nextInt(15) == 0 ? random.nextInt(7) - 2 : random.nextInt(3);
        switch (random.nextInt(5)) {
            case 0: return draftMark(mark);
            case 1: return draftAggregate(aggregate);
            default: return draftColumn(ch, c);
        }
    }

    private static Call draftMark(char mark) {
        return call("draftMark(" + mark + ")", p -> p.draftMark(mark), m -> m.draftMark(mark));
    }

    private static Call draftAggregate(int aggregate) {
        return call("draftAggregate(" + aggregate + ")", p -> p.draftAggregate(aggregate),
            m -> m.draftAggregate(aggregate));
    }

    private static Call draftColumn(int ch, int c) {
        return call("draftColumn(" + ch + ", " + c + ")", p -> p.draftColumn(ch, c), m -> m.draftColumn(ch, c));
    }

    private static Call draftQuestion(int question) {
        switch (question) {
            case 0: return call("brokenRule()", p -> p.brokenRule(), m -> m.broken(m.draft));
            case 1: return call("softRules()", p -> p.softRules(), m -> m.soft(m.draft));
            case 2: return call("draftCost()", p -> p.draftCost(), m -> m.draftCost());
            case 3: return call("draftRank()", p -> p.draftRank(), m -> m.draftRank());
            default: return call("isSound()", p -> p.isSound(), m -> true);
        }
    }

    // ---- the second program

    private static final class Drawn {
        char mark;
        int aggregate;
        int[] in = {-1, -1, -1, -1};

        Drawn copy() {
            Drawn copy = new Drawn();
            copy.mark = mark;
            copy.aggregate = aggregate;
            copy.in = in.clone();
            return copy;
        }

        boolean has(int column) {
            for (int c : in) {
                if (c == column) {
                    return true;
                }
            }
            return false;
        }
    }

    private static final List<Drawn> ALL = allCharts();

    private static List<Drawn> allCharts() {
        List<Drawn> all = new ArrayList<>();
        for (char mark : "blp".toCharArray()) {
            for (int aggregate = 0; aggregate < 3; aggregate++) {
                for (int code = 0; code < 7 * 7 * 7 * 7; code++) {
                    Drawn d = new Drawn();
                    d.mark = mark;
                    d.aggregate = aggregate;
                    d.in = new int[] {code / 343 - 1, code / 49 % 7 - 1, code / 7 % 7 - 1, code % 7 - 1};
                    boolean isOnce = true;
                    for (int a = 0; a < 4; a++) {
                        for (int b = 0; b < a; b++) {
                            isOnce = isOnce && (d.in[a] == -1 || d.in[a] != d.in[b]);
                        }
                    }
                    if (isOnce) {
                        all.add(d);
                    }
                }
            }
        }
        return all;
    }

    private static final class Model {
        final List<int[]> rows = new ArrayList<>();
        final int[] forced = new int[6];
        final boolean[] wished = new boolean[6];
        char wishedMark = '-';
        final boolean[][] forbidden = new boolean[6][4];
        final int[] weights = {3, 4, 2, 5, 3, 2, 6, 1};
        int margin = 3;
        Drawn pick = null;
        final List<Drawn> former = new ArrayList<>();
        final Drawn draft = new Drawn();
        private final int[] kinds = new int[6];
        private List<Drawn> ranked = null;

        Model() {
            draft.mark = 'b';
        }

        private void changed() {
            ranked = null;
            for (int c = 0; c < 6; c++) {
                kinds[c] = kind(c);
            }
        }

        int checked(int column) {
            if (column < 0 || column > 5) {
                throw new IndexOutOfBoundsException();
            }
            return column;
        }

        int checkedChannel(int channel) {
            if (channel < 0 || channel > 3) {
                throw new IndexOutOfBoundsException();
            }
            return channel;
        }

        private static void checkArgument(boolean isRight) {
            if (!isRight) {
                throw new IllegalArgumentException();
            }
        }

        private static void checkState(boolean isRight) {
            if (!isRight) {
                throw new IllegalStateException();
            }
        }

        private static boolean isValue(int v) {
            return v == MISSING || -9999 <= v && v <= 9999;
        }

        Object addRow(int[] v) {
            for (int x : v) {
                checkArgument(isValue(x));
            }
            checkState(rows.size() < 40);
            rows.add(v.clone());
            changed();
            return rows.size();
        }

        Object dropRow(int row) {
            if (row < 0 || row >= rows.size()) {
                throw new IndexOutOfBoundsException();
            }
            rows.remove(row);
            changed();
            return rows.size();
        }

        Object put(int row, int column, int v) {
            if (row < 0 || row >= rows.size()) {
                throw new IndexOutOfBoundsException();
            }
            checked(column);
            checkArgument(isValue(v));
            int before = rows.get(row)[column];
            rows.get(row)[column] = v;
            changed();
            return before;
        }

        private List<Integer> values(int column) {
            List<Integer> values = new ArrayList<>();
            for (int[] row : rows) {
                if (row[column] != MISSING) {
                    values.add(row[column]);
                }
            }
            return values;
        }

        int different(int column) {
            return (int) values(column).stream().distinct().count();
        }

        long sum(int column) {
            return values(column).stream().mapToLong(v -> v).sum();
        }

        Object meanOf(int column) {
            int n = values(checked(column)).size();
            if (n == 0) {
                throw new ArithmeticException();
            }
            return (double) sum(column) / (double) n;
        }

        Object filled(int column) {
            int n = values(checked(column)).size();
            if (rows.isEmpty()) {
                throw new ArithmeticException();
            }
            return (float) n / (float) rows.size();
        }

        int kind(int column) {
            List<Integer> values = values(column);
            int different = different(column);
            if (values.isEmpty()) {
                return 0;
            }
            if (different == 1) {
                return 1;
            }
            if (forced[column] != 0) {
                return forced[column];
            }
            boolean isRising = values.size() >= 4;
            for (int i = 1; i < values.size(); i++) {
                isRising = isRising && values.get(i) > values.get(i - 1);
            }
            if (isRising) {
                return 2;
            }
            return different <= 6 && values.size() >= 2 * different ? 3 : 4;
        }

        Object force(int column, int kind) {
            checked(column);
            checkArgument(kind >= 2 && kind <= 4);
            forced[column] = kind;
            changed();
            return kind(column);
        }

        Object unforce(int column) {
            checkState(forced[checked(column)] != 0);
            forced[column] = 0;
            changed();
            return kind(column);
        }

        Object wish(int column, boolean isWished) {
            wished[checked(column)] = isWished;
            changed();
            int n = 0;
            for (boolean w : wished) {
                n += w ? 1 : 0;
            }
            return n;
        }

        Object wishMark(char mark) {
            checkArgument("blp-".indexOf(mark) >= 0);
            char before = wishedMark;
            wishedMark = mark;
            changed();
            return before;
        }

        private int forbiddenPairs() {
            int n = 0;
            for (boolean[] row : forbidden) {
                for (boolean f : row) {
                    n += f ? 1 : 0;
                }
            }
            return n;
        }

        Object forbid(int column, int channel) {
            checkState(!forbidden[checked(column)][checkedChannel(channel)]);
            forbidden[column][channel] = true;
            changed();
            return forbiddenPairs();
        }

        Object allow(int column, int channel) {
            checkState(forbidden[checked(column)][checkedChannel(channel)]);
            forbidden[column][channel] = false;
            changed();
            return forbiddenPairs();
        }

        Object setWeight(int rule, int weight) {
            if (rule < 0 || rule > 7) {
                throw new IndexOutOfBoundsException();
            }
            checkArgument(weight >= 0 && weight <= 99);
            int before = weights[rule];
            weights[rule] = weight;
            changed();
            return before;
        }

        private boolean is(Drawn d, int channel, int kind) {
            return d.in[channel] != -1 && kinds[d.in[channel]] == kind;
        }

        int broken(Drawn d) {
            boolean hasHeight = is(d, 1, 4) || d.aggregate == 1;
            if (d.in[0] == -1 && d.in[1] == -1) {
                return 1;
            }
            for (int ch = 0; ch < 4; ch++) {
                if (is(d, ch, 0) || is(d, ch, 1)) {
                    return 2;
                }
            }
            if (d.in[3] != -1 && (!is(d, 3, 4) || d.mark != 'p')) {
                return 3;
            }
            if (d.mark == 'b' && (!is(d, 0, 3) && !is(d, 0, 2) || !hasHeight)) {
                return 4;
            }
            if (d.mark == 'l' && (!is(d, 0, 2) && !is(d, 0, 4) || !hasHeight)) {
                return 5;
            }
            if (d.aggregate == 1 && d.in[1] != -1) {
                return 6;
            }
            if (d.aggregate == 2 && (!is(d, 1, 4) || !is(d, 0, 3) && !is(d, 0, 2))) {
                return 7;
            }
            for (int ch = 0; ch < 4; ch++) {
                if (d.in[ch] != -1 && forbidden[d.in[ch]][ch]) {
                    return 8;
                }
            }
            for (int c = 0; c < 6; c++) {
                if (wished[c] && !d.has(c)) {
                    return 9;
                }
            }
            return wishedMark == '-' || wishedMark == d.mark ? 0 : 9;
        }

        int soft(Drawn d) {
            int columns = 0;
            for (int c : d.in) {
                columns += c == -1 ? 0 : 1;
            }
            int set = 0;
            set += d.mark == 'b' && d.aggregate == 0 ? 1 : 0;
            set += is(d, 0, 3) && is(d, 1, 3) ? 2 : 0;
            set += is(d, 2, 4) ? 4 : 0;
            set += d.mark == 'p' && d.aggregate == 0 && rows.size() > 20 ? 8 : 0;
            set += d.mark == 'p' && d.aggregate != 0 ? 16 : 0;
            set += columns >= 3 ? 32 : 0;
            set += is(d, 2, 3) && different(d.in[2]) > 4 ? 64 : 0;
            set += d.in[0] == -1 || d.in[1] == -1 ? 128 : 0;
            return set;
        }

        int cost(Drawn d) {
            int[][] parts = {{0, 2, 6, 0}, {1, 2, 2, 0}, {1, 0, 4, 3}};
            int cost = 0;
            for (int ch = 0; ch < 4; ch++) {
                if (d.in[ch] != -1) {
                    cost += parts[kinds[d.in[ch]] - 2][ch];
                }
            }
            int gaps = 0;
            for (int[] row : rows) {
                boolean hasGap = false;
                for (int c : d.in) {
                    hasGap = hasGap || c != -1 && row[c] == MISSING;
                }
                gaps += hasGap ? 1 : 0;
            }
            cost += gaps / 5;
            int set = soft(d);
            for (int rule = 0; rule < 8; rule++) {
                cost += (set & 1 << rule) != 0 ? weights[rule] : 0;
            }
            return cost;
        }

        List<Drawn> ranked() {
            if (ranked == null) {
                List<int[]> keys = new ArrayList<>();
                for (int i = 0; i < ALL.size(); i++) {
                    if (broken(ALL.get(i)) == 0) {
                        keys.add(new int[] {cost(ALL.get(i)), i});
                    }
                }
                // ALL stands in the order of charts with the same cost
                keys.sort(Comparator.<int[]>comparingInt(k -> k[0]).thenComparingInt(k -> k[1]));
                ranked = new ArrayList<>();
                for (int[] key : keys) {
                    ranked.add(ALL.get(key[1]));
                }
            }
            return ranked;
        }

        Drawn at(int rank) {
            if (rank < 0 || rank >= 5 || rank >= ranked().size()) {
                throw new NoSuchElementException();
            }
            return ranked().get(rank);
        }

        Object costByTrying(int rank) {
            int usable = 0;
            for (int c = 0; c < 6; c++) {
                usable += kinds[c] > 1 ? 1 : 0;
            }
            if (usable > 3) {
                throw new UnsupportedOperationException();
            }
            return cost(at(rank));
        }

        Object setMargin(int newMargin) {
            checkArgument(newMargin >= 0 && newMargin <= 99);
            int before = margin;
            margin = newMargin;
            return before;
        }

        Object pick() {
            Drawn best = at(0);
            if (pick != null && broken(pick) == 0 && cost(pick) <= cost(best) + margin) {
                return false;
            }
            if (pick != null) {
                former.add(0, pick);
                if (former.size() > 4) {
                    former.remove(4);
                }
            }
            pick = best.copy();
            return true;
        }

        Drawn checkedPick() {
            checkState(pick != null);
            return pick;
        }

        Object pickColumn(int channel) {
            checkedChannel(channel);
            return checkedPick().in[channel];
        }

        Object unpick() {
            checkState(!former.isEmpty());
            pick = former.remove(0);
            return former.size();
        }

        Object forget() {
            int before = former.size();
            former.removeIf(d -> broken(d) != 0);
            return before - former.size();
        }

        Object draftMark(char mark) {
            checkArgument("blp".indexOf(mark) >= 0);
            char before = draft.mark;
            draft.mark = mark;
            return before;
        }

        Object draftAggregate(int aggregate) {
            checkArgument(aggregate >= 0 && aggregate <= 2);
            int before = draft.aggregate;
            draft.aggregate = aggregate;
            return before;
        }

        Object draftColumn(int channel, int column) {
            checkedChannel(channel);
            if (column != -1) {
                checked(column);
            }
            int before = draft.in[channel];
            for (int ch = 0; ch < 4; ch++) {
                checkState(ch == channel || column == -1 || draft.in[ch] != column);
            }
            draft.in[channel] = column;
            return before;
        }

        Object draftCost() {
            checkState(broken(draft) == 0);
            return cost(draft);
        }

        Object draftRank() {
            checkState(broken(draft) == 0);
            for (int i = 0; i < ranked().size(); i++) {
                Drawn d = ranked().get(i);
                if (d.mark == draft.mark && d.aggregate == draft.aggregate
                        && java.util.Arrays.equals(d.in, draft.in)) {
                    return i;
                }
            }
            return -1;
        }
    }
}
