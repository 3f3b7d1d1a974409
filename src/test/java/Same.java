import java.util.function.Consumer;
import java.util.function.ToIntFunction;

/**
 * That a refused call leaves no trace: two halls are told the same, one of them is refused a call, and both must
 * then answer the same. An object is good for 512 calls only, so each look at the halls has a new pair of them.
 */
final class Same {
    private static final int[] OUTSIDE = {Integer.MIN_VALUE, Integer.MIN_VALUE + 1, -1000000, Integer.MAX_VALUE - 1, Integer.MAX_VALUE};
    private static final int[] TICKS = {0, 1, 2, 3, 4, 6, 8, 11, 14, 20, 30, 43, 60, 150, 298, 299};
    private static final int TAPE = 0;
    private static final int NEXT = 1;
    private static final int TOTALS = 2;
    private static final int BLOCKS = 3;
    private static final int FIRST_MACHINE = 4;
    private static final int LOOKS = FIRST_MACHINE + 8;

    private Same() {
    }

    /** Numbers that are refused where least .. most are taken: the first on each side, and some far outside. */
    static int[] outside(int least, int most) {
        int[] numbers = new int[OUTSIDE.length + 2];
        numbers[0] = least - 1;
        numbers[1] = most + 1;
        System.arraycopy(OUTSIDE, 0, numbers, 2, OUTSIDE.length);
        return numbers;
    }

    static void behindRefused(String call, int want, Consumer<BootHall> told, ToIntFunction<BootHall> refused) {
        behind(call, told, hall -> Check.due(call, refused.applyAsInt(hall), want), TAPE);
    }

    /** The same for a text with a FAULT, which is read of an empty tape: it leaves a place() and an empty tape. */
    static void behindFault(String text, int keeper, int want, Consumer<BootHall> told) {
        String call = "read(" + keeper + ") of " + text;
        behind(call, told, hall -> Check.due(call, Check.read(hall, keeper, text), want), NEXT);
    }

    private static void behind(String call, Consumer<BootHall> told, Consumer<BootHall> refused, int firstLook) {
        for (int look = firstLook; look < LOOKS; look++) {
            pair(call, told, refused, look, false);
            pair(call, told, refused, look, true);
        }
    }

    private static void pair(String call, Consumer<BootHall> told, Consumer<BootHall> refused, int look, boolean asked) {
        BootHall spared = new BootHall();
        BootHall tried = new BootHall();
        told.accept(spared);
        told.accept(tried);
        if (asked) {
            // What was answered once may be kept by the hall, and must not be spoilt either.
            Check.due(call + ": ends() ahead", tried.ends(), spared.ends());
        }
        refused.accept(tried);
        Check.due("behind " + call + ", look " + look + " (0 tape, 1 next, 2 totals, 3 blocks, 4.. machines)", look(tried, look), look(spared, look));
    }

    private static int[] look(BootHall x, int look) {
        switch (look) {
            case TAPE:
                return tape(x);
            case NEXT:
                return next(x);
            case TOTALS:
                return totals(x);
            case BLOCKS:
                return blocks(x);
            default:
                return machine(x, look - FIRST_MACHINE);
        }
    }

    private static int[] tape(BootHall x) {
        return new int[] {x.count(7), x.place(), x.read(1), x.place(), x.count(3), x.answer(1, 0, 0), x.answer(1, 1, 20), x.count(7)};
    }

    private static int[] next(BootHall x) {
        return new int[] {x.lose(0, 2), x.spoil(0, 0, 3), x.down(0, 7, 9), x.cut(0, 50), x.machine(1, 2, 3), x.file(2, -1), x.ends(), x.up(),
            x.count(6)};
    }

    private static int[] totals(BootHall x) {
        int[] seen = new int[14 + 60];
        int n = 0;
        for (int what = 0; what < 7; what++) {
            seen[n++] = x.count(what);
        }
        for (int kind = 0; kind < 4; kind++) {
            seen[n++] = x.wakes(kind);
        }
        seen[n++] = x.ends();
        seen[n++] = x.up();
        seen[n++] = x.sends(299);
        for (int tick = 0; tick < 60; tick++) {
            seen[n++] = x.sends(tick);
        }
        return seen;
    }

    private static int[] blocks(BootHall x) {
        int[] seen = new int[6 * 12];
        for (int i = 0; i < seen.length; i++) {
            seen[i] = x.sent(i / 12, i % 12);
        }
        return seen;
    }

    private static int[] machine(BootHall x, int machine) {
        int[] seen = new int[TICKS.length * 12 + 8];
        int n = 0;
        for (int tick : TICKS) {
            for (int what = 0; what < 10; what++) {
                seen[n++] = x.state(machine, tick, what);
            }
            seen[n++] = x.answer(0, machine, tick);
            seen[n++] = x.answer(1, machine, tick);
        }
        for (int i = 0; i < 8; i++) {
            seen[n++] = x.log(machine, i);
        }
        return seen;
    }
}
