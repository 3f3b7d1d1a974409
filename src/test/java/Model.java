import java.util.ArrayList;
import java.util.Arrays;
import java.util.HashSet;
import java.util.LinkedHashSet;
import java.util.List;
import java.util.Set;
import java.util.function.IntBinaryOperator;
import java.util.function.ToIntFunction;

/** The document once more, in the plainest form and with the Java library: what ModelTest holds the class against. */
final class Model {
    private record Fact(String sort, int a, int b, int c) {
    }

    private record Rule(boolean after, int number, ToIntFunction<int[]> condition) {
    }

    private record Told(int kind, int place, int mark) {
    }

    private static final class Fault extends RuntimeException {
        private static final long serialVersionUID = 1L;
        final int number;
        final int place;

        Fault(int number, int place) {
            this.number = number;
            this.place = place;
        }
    }

    private static final class Token {
        String text;
        int place;
        boolean fine;
    }

    /** A machine at the end of a tick. */
    private static final class Body implements Cloneable {
        int[] seen = {0, -1, -1, -1, 0, 0, 0, 0, 0, 0};
        int askAt;
        int wantedFirst;
        int installFrom;
        int cutAt = -1000;

        Body copy() {
            Body b = new Body();
            b.seen = seen.clone();
            b.askAt = askAt;
            b.wantedFirst = wantedFirst;
            b.installFrom = installFrom;
            b.cutAt = cutAt;
            return b;
        }

        void become(int state, int file, int block, int reason, int chain) {
            seen[0] = state;
            seen[1] = file;
            seen[2] = block;
            seen[4] = reason;
            seen[9] = chain;
        }
    }

    private StringBuilder tape = new StringBuilder();
    private int faultPlace = -1;
    private final List<Told> machines = new ArrayList<>();
    private final List<int[]> files = new ArrayList<>();
    private final List<Fact> facts = new ArrayList<>();
    private final Set<Fact> factSet = new HashSet<>();
    private final List<List<Rule>> texts = new ArrayList<>(List.of(List.of(), List.of()));
    private int width = 2;
    private final int[] wakes = new int[4];

    // the run
    private List<List<Body>> days;
    private List<List<Integer>> sendings;

    int feed(int... words) {
        if (tape.length() + 20 > 2000) {
            return -1;
        }
        for (int w : words) {
            for (int i = 3; i >= 0; i--) {
                tape.append((char) (w >> (8 * i) & 255));
            }
        }
        return tape.length();
    }

    int back(int n) {
        if (n < 0 || n > tape.length()) {
            return -1;
        }
        tape.setLength(tape.length() - n);
        return tape.length();
    }

    int read(int keeper) {
        if (keeper != 0 && keeper != 1) {
            return -1;
        }
        String text = tape.toString();
        tape.setLength(0);
        try {
            texts.set(keeper, new Grammar(text).text());
            days = null;
            faultPlace = -1;
            return 0;
        } catch (Fault f) {
            faultPlace = f.place;
            return f.number;
        }
    }

    int place() {
        return faultPlace;
    }

    int machine(int kind, int place, int mark) {
        if (machines.size() == 8 || out(kind, 4) || out(place, 8) || out(mark, 100)) {
            return -1;
        }
        days = null;
        machines.add(new Told(kind, place, mark));
        return machines.size() - 1;
    }

    int file(int blocks, int next) {
        if (files.size() == 6 || blocks < 1 || blocks > 12 || next < -1 || next > 5) {
            return -1;
        }
        days = null;
        files.add(new int[] {blocks, next});
        return files.size() - 1;
    }

    boolean width(int w) {
        if (w >= 1 && w <= 8) {
            days = null;
            width = w;
            return true;
        }
        return false;
    }

    boolean wake(int kind, int tick) {
        if (out(kind, 4) || out(tick, 300)) {
            return false;
        }
        days = null;
        wakes[kind] = tick;
        return true;
    }

    private int tell(boolean fine, String sort, int a, int b, int c) {
        if (!fine || facts.size() == 200) {
            return -1;
        }
        days = null;
        facts.add(new Fact(sort, a, b, c));
        if (sort.equals("down")) {
            for (int t = b; t < c; t++) {
                factSet.add(new Fact("down", a, t, 0));
            }
        } else {
            factSet.add(new Fact(sort, a, b, c));
        }
        return facts.size() - 1;
    }

    int lose(int machine, int tick) {
        return tell(!out(machine, machines.size()) && !out(tick, 300), "lose", machine, tick, 0);
    }

    int spoil(int file, int block, int tick) {
        return tell(!out(file, files.size()) && !out(block, files.get(file)[0]) && !out(tick, 300), "spoil", file, block, tick);
    }

    int down(int keeper, int a, int b) {
        return tell(!out(keeper, 2) && a >= 0 && a <= (long) b - 1 && b <= 300, "down", keeper, a, b);
    }

    int cut(int machine, int tick) {
        return tell(!out(machine, machines.size()) && !out(tick, 300), "cut", machine, tick, 0);
    }

    int answer(int keeper, int machine, int tick) {
        if (out(keeper, 2) || out(machine, machines.size()) || out(tick, 300)) {
            return -1;
        }
        run();
        return answerOf(keeper, machine, days.get(tick).get(machine), tick);
    }

    int state(int machine, int tick, int what) {
        if (out(machine, machines.size()) || out(tick, 300) || out(what, 10)) {
            return -1000000;
        }
        run();
        return days.get(tick).get(machine).seen[what];
    }

    int sends(int tick) {
        if (out(tick, 300)) {
            return -1;
        }
        run();
        return sendings.get(tick).size();
    }

    int sent(int file, int block) {
        if (out(file, files.size()) || out(block, files.get(file)[0])) {
            return -1;
        }
        run();
        int n = 0;
        for (List<Integer> day : sendings) {
            for (int id : day) {
                n += id == file * 100 + block ? 1 : 0;
            }
        }
        return n;
    }

    int ends() {
        run();
        if (machines.isEmpty()) {
            return -1;
        }
        int first = -1;
        for (int t = 299; t >= 0; t--) {
            for (Body b : days.get(t)) {
                if (b.seen[0] < 4) {
                    return first;
                }
            }
            first = t;
        }
        return first;
    }

    int up() {
        run();
        int bits = 0;
        for (int m = 0; m < machines.size(); m++) {
            bits |= days.get(299).get(m).seen[0] == 4 ? 1 << m : 0;
        }
        return bits;
    }

    int log(int machine, int i) {
        if (out(machine, machines.size()) || i < 0) {
            return -1;
        }
        run();
        List<Integer> changes = new ArrayList<>();
        for (int t = 0; t < 300; t++) {
            int now = days.get(t).get(machine).seen[0];
            int old = t == 0 ? 0 : days.get(t - 1).get(machine).seen[0];
            if (now != old) {
                changes.add(10 * t + now);
            }
        }
        return i < changes.size() ? changes.get(i) : -1;
    }

    int plan(int s) {
        if (s < 1 || s > 20) {
            return -2;
        }
        int[] best = null;
        int[] bestWakes = null;
        boolean[] has = new boolean[4];
        for (Told m : machines) {
            has[m.kind()] = true;
        }
        for (int a = 0; a <= (has[0] ? 3 : 0); a++) {
            for (int b = 0; b <= (has[1] ? 3 : 0); b++) {
                for (int c = 0; c <= (has[2] ? 3 : 0); c++) {
                    for (int d = 0; d <= (has[3] ? 3 : 0); d++) {
                        int[] w = {a * s, b * s, c * s, d * s};
                        System.arraycopy(w, 0, wakes, 0, 4);
                        days = null;
                        int end = ends();
                        int[] rank = {-Integer.bitCount(up()), end < 0 ? 1000 : end, count(6)};
                        if (best == null || Arrays.compare(rank, best) < 0) {
                            best = rank;
                            bestWakes = w;
                        }
                    }
                }
            }
        }
        System.arraycopy(bestWakes, 0, wakes, 0, 4);
        days = null;
        return ends();
    }

    int wakes(int kind) {
        return out(kind, 4) ? -1 : wakes[kind];
    }

    int count(int what) {
        switch (what) {
            case 0: return machines.size();
            case 1: return files.size();
            case 2: return texts.get(0).size();
            case 3: return texts.get(1).size();
            case 4: return facts.size();
            case 5: return width;
            case 6:
                run();
                return sendings.stream().mapToInt(List::size).sum();
            case 7: return tape.length();
            default: return -1;
        }
    }

    private static boolean out(int n, int bound) {
        return n < 0 || n >= bound;
    }

    // ---- part III

    private int answerOf(int keeper, int machine, Body b, int tick) {
        Set<Integer> chosen = new LinkedHashSet<>();
        for (Rule r : texts.get(keeper)) {
            if (!r.after() && r.condition().applyAsInt(vars(machine, b, tick)) != 0) {
                chosen.add(r.number());
            }
        }
        if (chosen.isEmpty()) {
            return -1;
        }
        int one = chosen.iterator().next();
        return chosen.size() > 1 || one >= files.size() ? -2 : one;
    }

    private int[] vars(int machine, Body b, int tick) {
        Told m = machines.get(machine);
        return new int[] {m.kind(), m.place(), m.mark(), b.seen[5], b.seen[6], b.seen[8], tick};
    }

    private boolean is(String sort, int a, int b, int c) {
        return factSet.contains(new Fact(sort, a, b, c));
    }

    private void run() {
        if (days != null) {
            return;
        }
        days = new ArrayList<>();
        sendings = new ArrayList<>();
        List<Body> now = new ArrayList<>();
        for (int m = 0; m < machines.size(); m++) {
            now.add(new Body());
        }
        for (int t = 0; t < 300; t++) {
            for (int m = 0; m < now.size(); m++) {
                powerStep(now.get(m), m, t);
            }
            for (int m = 0; m < now.size(); m++) {
                if (now.get(m).seen[0] == 1 && now.get(m).askAt <= t) {
                    askStep(now, m, t);
                }
            }
            fetchStep(now, t);
            for (int m = 0; m < now.size(); m++) {
                installStep(now.get(m), t);
            }
            List<Body> kept = new ArrayList<>();
            for (Body b : now) {
                kept.add(b.copy());
            }
            days.add(kept);
        }
    }

    private void powerStep(Body b, int m, int t) {
        if (is("cut", m, t, 0)) {
            b.cutAt = t;
            b.become(0, -1, -1, 0, 0);
            b.seen[5] = b.seen[6] = b.seen[7] = 0;
        }
        if (b.seen[0] == 0 && t >= wakes[machines.get(m).kind()] && t > b.cutAt + 2) {
            b.become(1, -1, -1, 0, 0);
            b.seen[5] = b.seen[6] = b.seen[7] = 0;
            b.seen[8]++;
            b.askAt = t;
        }
    }

    private void askStep(List<Body> now, int m, int t) {
        Body b = now.get(m);
        int got = -1;
        int from = -1;
        for (int k = 0; k < 2; k++) {
            if (got == -1 && !is("down", k, t, 0) && !is("lose", m, t, 0)) {
                got = answerOf(k, m, b, t);
                from = k;
            }
        }
        if (got < 0) {
            b.seen[5]++;
            b.askAt = t + (int) Math.pow(2, b.seen[5]);
            if (b.seen[5] == 5) {
                b.become(5, -1, -1, got == -2 ? 2 : 1, 0);
            }
            return;
        }
        for (Rule r : texts.get(from)) {
            if (r.after() && r.condition().applyAsInt(vars(m, b, t)) != 0) {
                for (int o = 0; o < now.size(); o++) {
                    if (o != m && machines.get(o).kind() == r.number() && now.get(o).seen[0] != 4) {
                        b.askAt = t + 1;
                        return;
                    }
                }
            }
        }
        b.become(2, got, 0, 0, 1);
        b.wantedFirst = t + 1;
    }

    private void fetchStep(List<Body> now, int t) {
        List<Integer> wanting = new ArrayList<>();
        for (int m = 0; m < now.size(); m++) {
            if (now.get(m).seen[0] == 2 && now.get(m).wantedFirst <= t) {
                wanting.add(m);
            }
        }
        wanting.sort((p, q) -> now.get(p).wantedFirst != now.get(q).wantedFirst
            ? Integer.compare(now.get(p).wantedFirst, now.get(q).wantedFirst) : Integer.compare(p, q));
        Set<Integer> unlike = new LinkedHashSet<>();
        for (int m : wanting) {
            unlike.add(now.get(m).seen[1] * 100 + now.get(m).seen[2]);
        }
        List<Integer> sent = new ArrayList<>(unlike).subList(0, Math.min(width, unlike.size()));
        sendings.add(sent);
        for (int m : wanting) {
            Body b = now.get(m);
            int file = b.seen[1];
            int block = b.seen[2];
            if (!sent.contains(file * 100 + block) || is("lose", m, t, 0)) {
                if (++b.seen[7] == 12) {
                    b.become(5, -1, -1, 4, 0);
                }
            } else if (is("spoil", file, block, t)) {
                if (++b.seen[6] == 4) {
                    b.become(5, -1, -1, 3, 0);
                }
            } else {
                b.seen[7] = 0;
                b.seen[2]++;
                if (b.seen[2] == files.get(file)[0]) {
                    lastBlock(b, files.get(file)[1], t);
                }
            }
        }
    }

    private void lastBlock(Body b, int next, int t) {
        int chain = b.seen[9] + 1;
        if (next == -1) {
            b.seen[0] = 3;
            b.seen[2] = 0;
            b.installFrom = t + 1;
        } else if (chain == 4 || next >= files.size()) {
            b.become(5, -1, -1, 5, 0);
        } else {
            b.become(2, next, 0, 0, chain);
            b.wantedFirst = t + 1;
        }
    }

    private void installStep(Body b, int t) {
        if (b.seen[0] == 3 && b.installFrom <= t) {
            if (b.seen[2] == files.get(b.seen[1])[0]) {
                b.seen[3] = b.seen[1];
                b.become(4, -1, -1, 0, 0);
            } else {
                b.seen[2]++;
            }
        }
    }

    // ---- part II, by descent

    private static final class Grammar {
        private static final List<String> VARS = List.of("kind", "place", "mark", "tries", "bad", "begun", "tick");
        private final List<Token> tokens = new ArrayList<>();
        private final int length;
        private int at;
        private int wrongAt = -1;

        Grammar(String text) {
            length = text.length();
            java.util.regex.Matcher m = java.util.regex.Pattern
                .compile("[\\t\\n\\r ]+|[a-z]+|[0-9]+|<=|==|!=|[;+*()<-]|.", java.util.regex.Pattern.DOTALL).matcher(text);
            while (m.find()) {
                String part = m.group();
                if (part.matches("[\\t\\n\\r ]+")) {
                    continue;
                }
                Token t = new Token();
                t.text = part;
                t.place = m.start();
                t.fine = part.matches("[a-z]{1,8}|[0-9]{1,4}|<=|==|!=|[;+*()<-]");
                tokens.add(t);
            }
        }

        List<Rule> text() {
            List<Rule> rules = new ArrayList<>();
            while (at < tokens.size()) {
                boolean after = looks("after");
                if (!after && !looks("file")) {
                    throw new Fault(1, place());
                }
                if (rules.size() == 20) {
                    throw new Fault(2, place());
                }
                next();
                int number = number(after ? 3 : 5);
                ToIntFunction<int[]> condition = v -> 1;
                if (after || looks("if")) {
                    expect("if");
                    condition = condition();
                }
                expect(";");
                rules.add(new Rule(after, number, condition));
            }
            if (wrongAt >= 0) {
                throw new Fault(5, wrongAt);
            }
            return rules;
        }

        private int place() {
            return at < tokens.size() ? tokens.get(at).place : length;
        }

        private boolean looks(String text) {
            return at < tokens.size() && tokens.get(at).fine && tokens.get(at).text.equals(text);
        }

        private boolean looksInt() {
            return at < tokens.size() && tokens.get(at).fine && Character.isDigit(tokens.get(at).text.charAt(0));
        }

        /** Only called for a token that fits. */
        private String next() {
            if (at == 400) {
                throw new Fault(2, place());
            }
            return tokens.get(at++).text;
        }

        private void expect(String text) {
            if (!looks(text)) {
                throw new Fault(1, place());
            }
            next();
        }

        private int number(int most) {
            if (!looksInt()) {
                throw new Fault(1, place());
            }
            int where = place();
            int n = Integer.parseInt(next());
            if (n > most && wrongAt < 0) {
                wrongAt = where;
            }
            return n;
        }

        private ToIntFunction<int[]> condition() {
            ToIntFunction<int[]> left = all();
            while (looks("or")) {
                next();
                left = both(left, all(), (a, b) -> a | b);
            }
            return left;
        }

        private ToIntFunction<int[]> all() {
            ToIntFunction<int[]> left = relation();
            while (looks("and")) {
                next();
                left = both(left, relation(), (a, b) -> a & b);
            }
            return left;
        }

        private ToIntFunction<int[]> relation() {
            ToIntFunction<int[]> left = sum(0);
            if (looks("==") || looks("!=") || looks("<") || looks("<=")) {
                String sign = next();
                ToIntFunction<int[]> right = sum(0);
                return both(left, right, (a, b) -> (sign.equals("==") ? a == b : sign.equals("!=") ? a != b
                    : sign.equals("<") ? a < b : a <= b) ? 1 : 0);
            }
            throw new Fault(1, place());
        }

        private ToIntFunction<int[]> sum(int depth) {
            ToIntFunction<int[]> left = product(depth);
            while (looks("+") || looks("-")) {
                boolean plus = next().equals("+");
                left = both(left, product(depth), (a, b) -> plus ? a + b : a - b);
            }
            return left;
        }

        private ToIntFunction<int[]> product(int depth) {
            ToIntFunction<int[]> left = unit(depth);
            while (looks("*")) {
                next();
                left = both(left, unit(depth), (a, b) -> a * b);
            }
            return left;
        }

        private ToIntFunction<int[]> unit(int depth) {
            if (looksInt()) {
                int n = Integer.parseInt(next());
                return v -> n;
            }
            if (looks("(")) {
                if (depth == 6) {
                    throw new Fault(2, place());
                }
                next();
                ToIntFunction<int[]> inner = sum(depth + 1);
                expect(")");
                return inner;
            }
            int var = at < tokens.size() ? VARS.indexOf(tokens.get(at).text) : -1;
            if (var < 0) {
                throw new Fault(1, place());
            }
            next();
            return v -> v[var];
        }

        private static ToIntFunction<int[]> both(ToIntFunction<int[]> left, ToIntFunction<int[]> right, IntBinaryOperator by) {
            return v -> by.applyAsInt(left.applyAsInt(v), right.applyAsInt(v));
        }
    }
}
