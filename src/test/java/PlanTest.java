/** Promises 21 and 22. */
final class PlanTest {
    public static void main(String[] args) {
        wrongInputs();
        withoutMachines();
        mostUpFirst();
        thenTheEnd();
        thenTheBlocks();
        endless();
        Check.finish();
    }

    private static int[] wakes(BootHall x) {
        return new int[] {x.wakes(0), x.wakes(1), x.wakes(2), x.wakes(3)};
    }

    private static void wrongInputs() {
        BootHall x = new BootHall();
        x.machine(0, 0, 0);
        x.file(1, -1);
        Check.read(x, 0, "file 0;");
        x.wake(0, 17);
        x.wake(3, 18);
        int[] bad = {0, -1, 21, Integer.MIN_VALUE, Integer.MAX_VALUE};
        for (int s : bad) {
            Check.due("plan " + s, x.plan(s), -2);
        }
        Check.due("nothing happened", wakes(x), 17, 0, 0, 18);
        Check.due("ends", x.ends(), 20);
        Check.due("plan 20", x.plan(20), 3);
        Check.due("a kind without machines: 0", wakes(x), 0, 0, 0, 0);
        Check.due("ends now", x.ends(), 3);
        Check.due("plan 1", x.plan(1), 3);
    }

    private static void withoutMachines() {
        BootHall x = new BootHall();
        x.wake(2, 9);
        Check.due("plan of none", x.plan(3), -1);
        Check.due("all 0", wakes(x), 0, 0, 0, 0);
    }

    /** Kind 1 is lost to rescue unless it wakes when kind 0 has all it wants. */
    private static void mostUpFirst() {
        BootHall x = new BootHall();
        x.machine(0, 0, 0);
        x.machine(1, 0, 0);
        x.file(12, -1);
        x.file(12, -1);
        x.width(1);
        Check.read(x, 0, "file 0 if kind == 0; file 1 if kind == 1;");
        Check.due("told at once", x.ends(), 25);
        Check.due("one is up", x.up(), 1);
        Check.due("plan(5)", x.plan(5), 37);
        Check.due("the first that do", wakes(x), 0, 5, 0, 0);
        Check.due("both up", x.up(), 3);
        Check.due("ends() of it", x.ends(), 37);
        // With kind 1's power cut for good at the end kind 0 alone counts.
        x.cut(1, 299);
        Check.due("no end then", x.plan(5), -1);
        Check.due("one is up then", x.up(), 1);
        Check.due("the least blocks", wakes(x), 0, 0, 0, 0);
    }

    private static void thenTheEnd() {
        BootHall x = new BootHall();
        x.machine(0, 0, 0);
        x.machine(1, 0, 0);
        x.machine(1, 1, 0);
        x.file(1, -1);
        Check.read(x, 0, "file 0 if kind == 0 and 4 <= tick; file 0 if kind == 1;");
        // Kind 0 asks at 0, 2, 6 when it wakes at 0, at once when it wakes at 4.
        Check.due("plan(4)", x.plan(4), 7);
        Check.due("wakes", wakes(x), 4, 4, 0, 0);
        Check.due("one block for all", x.count(6), 1);
        Check.due("plan(3)", x.plan(3), 8);
        Check.due("3 asks at 3 and 5", wakes(x), 3, 0, 0, 0);
    }

    private static void thenTheBlocks() {
        BootHall x = new BootHall();
        x.machine(2, 0, 0);
        x.machine(3, 0, 0);
        x.file(2, -1);
        Check.read(x, 0, "file 0 if kind == 2 and tick == 6 or kind == 3;");
        Check.due("plan(3)", x.plan(3), 11);
        Check.due("kind 2 wakes at 0, kind 3 with it at 6", wakes(x), 0, 0, 0, 6);
        Check.due("two blocks", x.count(6), 2);
        Check.due("plan(6)", x.plan(6), 11);
        Check.due("wakes", wakes(x), 0, 0, 0, 6);
        Check.due("plan(20)", x.plan(20), 11);
        Check.due("none at 6", wakes(x), 0, 0, 0, 0);
        Check.due("four blocks", x.count(6), 4);
    }

    private static void endless() {
        BootHall x = new BootHall();
        x.machine(0, 0, 0);
        x.machine(1, 0, 0);
        x.file(1, -1);
        // Kind 0 waits for kind 1, which has no answer but when it wakes late.
        Check.read(x, 0, "file 0 if kind == 0; after 1 if kind == 0; file 0 if kind == 1 and 60 <= tick;");
        Check.due("plan(7)", x.plan(7), -1);
        Check.due("no wake helps", wakes(x), 0, 0, 0, 0);
        Check.due("plan(20)", x.plan(20), 67);
        Check.due("one does", wakes(x), 0, 60, 0, 0);
        Check.due("both up", x.up(), 3);
    }
}
