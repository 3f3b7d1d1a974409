import java.util.Random;

/** Long runs of drawn calls, the same in each run of the test: the class must answer as the plain model does. */
final class ModelTest {
    private static final String[] VARS = {"kind", "place", "mark", "tries", "bad", "begun", "tick"};
    private static final String[] SCRAPS = {"file", "after", "if", "and", "or", ";", "(", ")", "+", "-", "*", "==", "!=", "<", "<=",
        "0", "12345", "kind", "kinds", "=", ".", "\u00e4", "abcdefgh", "abcdefghi", "!", ">", "\t", "\n\r"};

    private final Random random;
    private final BootHall hall = new BootHall();
    private final Model model = new Model();
    private final String run;
    private int calls;
    private int span = 40;
    private int plans;
    private boolean crowded;

    private ModelTest(int seed) {
        random = new Random(seed);
        run = "run " + seed + ", call ";
    }

    public static void main(String[] args) {
        int runs = args.length > 0 ? Integer.parseInt(args[0]) : 250;
        for (int seed = 1; seed <= runs; seed++) {
            new ModelTest(seed).play();
        }
        Check.finish();
    }

    private int below(int n) {
        return random.nextInt(n);
    }

    private boolean chance(int percent) {
        return below(100) < percent;
    }

    /** Mostly a number below n, now and then one that is just or far outside. */
    private int about(int n) {
        if (chance(97)) {
            return below(n);
        }
        int[] odd = {-1, n, n + 1, -2, Integer.MIN_VALUE, Integer.MAX_VALUE};
        return odd[below(odd.length)];
    }

    private int tick() {
        return chance(92) ? below(span) : about(300);
    }

    private void due(String call, long got, long want) {
        Check.due(run + calls + ": " + call, got, want);
        calls++;
    }

    private void play() {
        int[] spans = {8, 20, 40, 80, 300};
        span = spans[below(spans.length)];
        crowded = chance(40);
        if (crowded) {
            due("width 1", hall.width(1) ? 1 : 0, model.width(1) ? 1 : 0);
        }
        int machines = 1 + below(8);
        for (int i = 0; i < machines; i++) {
            machine();
        }
        int files = 1 + below(6);
        for (int i = 0; i < files; i++) {
            file();
        }
        text(0, 0);
        if (chance(60)) {
            text(1, 0);
        }
        for (int i = below(60); i > 0; i--) {
            fact();
        }
        for (int i = below(4); i > 0; i--) {
            burst();
        }
        while (calls < 490) {
            if (chance(12)) {
                tell();
            } else {
                ask();
            }
        }
    }

    private void tell() {
        switch (below(9)) {
            case 0:
                machine();
                break;
            case 1:
                file();
                break;
            case 2:
                int w = about(9);
                due("width " + w, hall.width(w) ? 1 : 0, model.width(w) ? 1 : 0);
                break;
            case 3:
                int kind = about(4);
                int at = tick();
                due("wake " + kind + " " + at, hall.wake(kind, at) ? 1 : 0, model.wake(kind, at) ? 1 : 0);
                break;
            case 4:
                text(about(2), chance(50) ? 0 : 1 + below(3));
                break;
            case 5:
                int n = chance(80) ? below(3) : about(200);
                due("back " + n, hall.back(n), model.back(n));
                break;
            default:
                fact();
                break;
        }
    }

    private void machine() {
        int kind = about(4);
        int place = about(8);
        int mark = about(100);
        due("machine " + kind + " " + place + " " + mark, hall.machine(kind, place, mark), model.machine(kind, place, mark));
    }

    private void file() {
        int blocks = chance(70) ? 1 + below(5) + (crowded ? 6 : 0) : about(14);
        int next = chance(55) ? -1 : about(6);
        due("file " + blocks + " " + next, hall.file(blocks, next), model.file(blocks, next));
    }

    private void fact() {
        int a = about(chance(90) ? Math.max(1, model.count(0)) : 8);
        int t = tick();
        switch (below(4)) {
            case 0:
                due("lose " + a + " " + t, hall.lose(a, t), model.lose(a, t));
                break;
            case 1:
                int f = about(Math.max(1, model.count(1)));
                int b = chance(80) ? below(5) : about(13);
                due("spoil " + f + " " + b + " " + t, hall.spoil(f, b, t), model.spoil(f, b, t));
                break;
            case 2:
                int k = about(2);
                int till = chance(90) ? t + below(12) : about(302);
                due("down " + k + " " + t + " " + till, hall.down(k, t, till), model.down(k, t, till));
                break;
            default:
                due("cut " + a + " " + t, hall.cut(a, t), model.cut(a, t));
                break;
        }
    }

    /** The same mischief in many ticks one after the other, without which few machines come to harm. */
    private void burst() {
        int from = below(span);
        int what = below(12);
        boolean letters = chance(50);
        for (int t = from; t < Math.min(from + 3 + below(12), 300); t++) {
            if (letters) {
                due("lose " + what % 8 + " " + t, hall.lose(what % 8, t), model.lose(what % 8, t));
            } else {
                int f = what % 3;
                int b = what / 3;
                due("spoil " + f + " " + b + " " + t, hall.spoil(f, b, t), model.spoil(f, b, t));
            }
        }
    }

    private void ask() {
        int m = about(Math.max(1, model.count(0)));
        int t = chance(75) ? tick() : about(300);
        int what = about(10);
        switch (below(16)) {
            case 0:
                due("ends", hall.ends(), model.ends());
                break;
            case 1:
                due("up", hall.up(), model.up());
                break;
            case 2:
            case 3:
                int i = about(10);
                due("log " + m + " " + i, hall.log(m, i), model.log(m, i));
                break;
            case 4:
                due("sends " + t, hall.sends(t), model.sends(t));
                break;
            case 5:
                int f = about(Math.max(1, model.count(1)));
                int b = about(chance(80) ? 3 : 12);
                due("sent " + f + " " + b, hall.sent(f, b), model.sent(f, b));
                break;
            case 6:
            case 7:
                int k = about(2);
                due("answer " + k + " " + m + " " + t, hall.answer(k, m, t), model.answer(k, m, t));
                break;
            case 8:
                int c = about(8);
                due("count " + c, hall.count(c), model.count(c));
                break;
            case 9:
                plan();
                break;
            default:
                due("state " + m + " " + t + " " + what, hall.state(m, t, what), model.state(m, t, what));
                break;
        }
    }

    private void plan() {
        if (plans >= 2) {
            return;
        }
        plans++;
        int s = chance(90) ? 1 + below(20) : about(22);
        due("plan " + s, hall.plan(s), model.plan(s));
        for (int kind = 0; kind < 4; kind++) {
            due("wakes " + kind, hall.wakes(kind), model.wakes(kind));
        }
    }

    private void text(int keeper, int scraps) {
        StringBuilder text = new StringBuilder();
        int rules = chance(90) ? below(5) : below(23);
        if (chance(70)) {
            text.append("file ").append(below(Math.max(1, model.count(1)))).append(chance(50) ? "" : " if tick < 9999").append(';');
        }
        for (int i = 0; i < rules; i++) {
            rule(text);
        }
        for (int i = 0; i < scraps; i++) {
            String scrap = SCRAPS[below(SCRAPS.length)];
            int at = below(text.length() + 1);
            int cut = chance(50) ? 0 : Math.min(below(4), text.length() - at);
            text.replace(at, at + cut, scrap);
        }
        String whole = text.length() > 1900 ? text.substring(0, 1900) : text.toString();
        while (calls < 490 && model.count(7) > 0) {
            int n = Math.min(model.count(7), 400);
            due("back " + n, hall.back(n), model.back(n));
        }
        for (int at = 0; at < whole.length(); at += 20) {
            int[] w = new int[5];
            for (int j = 0; j < 5; j++) {
                w[j] = Check.word(whole, at + 4 * j);
            }
            due("feed", hall.feed(w[0], w[1], w[2], w[3], w[4]), model.feed(w));
        }
        int over = (20 - whole.length() % 20) % 20;
        due("back " + over, hall.back(over), model.back(over));
        due("read " + keeper + " '" + whole + "'", hall.read(keeper), model.read(keeper));
        due("place '" + whole + "'", hall.place(), model.place());
    }

    private void rule(StringBuilder text) {
        if (chance(65)) {
            text.append("file").append(blank()).append(chance(95) ? below(Math.max(1, model.count(1))) : below(8)).append(blank());
            if (chance(10)) {
                text.append(';');
                return;
            }
        } else {
            text.append("after").append(blank()).append(chance(97) ? below(4) : below(6)).append(blank());
        }
        text.append("if").append(blank());
        relation(text);
        while (chance(30)) {
            text.append(' ').append(chance(50) ? "and" : "or").append(blank());
            relation(text);
        }
        text.append(blank()).append(';');
    }

    private String blank() {
        String[] blanks = {"", " ", "  ", "\t", "\n", "\r"};
        return chance(70) ? " " : blanks[below(blanks.length)];
    }

    private void relation(StringBuilder text) {
        if (chance(60)) {
            int var = below(7);
            int[] bounds = {4, 8, 100, 5, 4, 3, span};
            String[] signs = {"==", "!=", "<", "<="};
            text.append(VARS[var]).append(blank()).append(signs[below(4)]).append(blank()).append(below(bounds[var]));
            return;
        }
        sum(text, 0);
        String[] signs = {"==", "!=", "<", "<="};
        text.append(blank()).append(signs[below(4)]).append(blank());
        sum(text, 0);
    }

    private void sum(StringBuilder text, int depth) {
        unit(text, depth);
        while (chance(35)) {
            String[] signs = {"+", "-", "*"};
            text.append(blank()).append(signs[below(3)]).append(blank());
            unit(text, depth);
        }
    }

    private void unit(StringBuilder text, int depth) {
        if (chance(depth < 7 ? 30 : 0)) {
            text.append('(').append(blank());
            sum(text, depth + 1);
            text.append(blank()).append(')');
        } else if (chance(50)) {
            text.append(VARS[below(7)]);
        } else {
            text.append(chance(80) ? below(12) : below(10000));
        }
    }
}
