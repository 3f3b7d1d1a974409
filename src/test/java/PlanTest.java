/** Promises 21 and 22. */
final class PlanTest {
    public static void main(String[] args) {
        stepsTaken();
        stepsRefused();
        wrongInputs();
        withoutMachines();
        kindsWithoutMachines();
        mostUpFirst();
        thenTheEnd();
        thenTheBlocks();
        leastWakes();
        endless();
        rescueIsAnEnd();
        asAllWakesTried();
        Check.finish();
    }

    // "each 0, s, 2 * s or 3 * s (s 1 .. 20)"
    private static void stepsTaken() {
        for (int s = 1; s <= 20; s++) {
            for (int times = 0; times <= 4; times++) {
                BootHall x = new BootHall();
                x.machine(0, 0, 0);
                x.file(1, -1);
                // Begun in that tick alone it is up three ticks later; else it asks too late, or never.
                int tick = times * s;
                Check.read(x, 0, "file 0 if " + tick + " == tick and tries == 0;");
                String plan = "plan(" + s + ") for tick " + tick;
                Check.due(plan, x.plan(s), times <= 3 ? tick + 3 : 30);
                Check.due(plan, Halls.wakes(x), times <= 3 ? tick : 0, 0, 0, 0);
            }
        }
    }

    // "-2, and nothing happens: no such s"
    private static void stepsRefused() {
        for (int bad : Same.outside(1, 20)) {
            Same.behindRefused("plan(" + bad + ")", -2, Halls::busy, x -> x.plan(bad));
            Same.behindRefused("plan(" + bad + ") of a full hall", -2, Halls::full, x -> x.plan(bad));
            Same.behindRefused("plan(" + bad + ") of an empty hall", -2, x -> x.wake(3, 299), x -> x.plan(bad));
        }
    }

    private static void wrongInputs() {
        BootHall x = new BootHall();
        x.machine(0, 0, 0);
        x.file(1, -1);
        Check.read(x, 0, "file 0;");
        x.wake(0, 17);
        x.wake(3, 18);
        int[] bad = {0, -1, 21, Integer.MIN_VALUE, Integer.MAX_VALUE};
        for (int s : bad) {
            Check.due("plan " + s, x.plan(s), -2);
        }
        Check.due("nothing happened", Halls.wakes(x), 17, 0, 0, 18);
        Check.due("ends", x.ends(), 20);
        Check.due("plan 20", x.plan(20), 3);
        Check.due("a kind without machines: 0", Halls.wakes(x), 0, 0, 0, 0);
        Check.due("ends now", x.ends(), 3);
        Check.due("plan 1", x.plan(1), 3);
    }

    private static void withoutMachines() {
        BootHall x = new BootHall();
        x.wake(2, 9);
        Check.due("plan of none", x.plan(3), -1);
        Check.due("all 0", Halls.wakes(x), 0, 0, 0, 0);
    }

    // "(a KIND without MACHINES: 0)": also if it was told another WAKE
    private static void kindsWithoutMachines() {
        for (int kind = 0; kind < 4; kind++) {
            BootHall x = new BootHall();
            x.machine(kind, 0, 0);
            x.file(1, -1);
            for (int k = 0; k < 4; k++) {
                x.wake(k, 299);
            }
            Check.read(x, 0, "file 0 if 14 == tick and tries == 0;");
            Check.due("plan(7) of kind " + kind, x.plan(7), 17);
            for (int k = 0; k < 4; k++) {
                Check.due("wakes(" + k + ")", x.wakes(k), k == kind ? 14 : 0);
            }
            Check.due("they are the WAKES now", x.ends(), 17);
            Check.due("and so in a run", x.log(0, 0), 142);
        }
    }

    /** Kind 1 is lost to rescue unless it wakes when kind 0 has all it wants. */
    private static void mostUpFirst() {
        BootHall x = new BootHall();
        x.machine(0, 0, 0);
        x.machine(1, 0, 0);
        x.file(12, -1);
        x.file(12, -1);
        x.width(1);
        Check.read(x, 0, "file 0 if kind == 0; file 1 if kind == 1;");
        Check.due("told at once", x.ends(), 25);
        Check.due("one is up", x.up(), 1);
        Check.due("plan(5)", x.plan(5), 37);
        Check.due("the first that do", Halls.wakes(x), 0, 5, 0, 0);
        Check.due("both up", x.up(), 3);
        Check.due("ends() of it", x.ends(), 37);
        // With kind 1's power cut for good at the end kind 0 alone counts.
        x.cut(1, 299);
        Check.due("no end then", x.plan(5), -1);
        Check.due("one is up then", x.up(), 1);
        Check.due("the least blocks", Halls.wakes(x), 0, 0, 0, 0);
    }

    private static void thenTheEnd() {
        BootHall x = new BootHall();
        x.machine(0, 0, 0);
        x.machine(1, 0, 0);
        x.machine(1, 1, 0);
        x.file(1, -1);
        Check.read(x, 0, "file 0 if kind == 0 and 4 <= tick; file 0 if kind == 1;");
        // Kind 0 asks at 0, 2, 6 when it wakes at 0, at once when it wakes at 4.
        Check.due("plan(4)", x.plan(4), 7);
        Check.due("wakes", Halls.wakes(x), 4, 4, 0, 0);
        Check.due("one block for all", x.count(6), 1);
        Check.due("plan(3)", x.plan(3), 8);
        Check.due("3 asks at 3 and 5", Halls.wakes(x), 3, 0, 0, 0);
    }

    private static void thenTheBlocks() {
        BootHall x = new BootHall();
        x.machine(2, 0, 0);
        x.machine(3, 0, 0);
        x.file(2, -1);
        Check.read(x, 0, "file 0 if kind == 2 and tick == 6 or kind == 3;");
        Check.due("plan(3)", x.plan(3), 11);
        Check.due("kind 2 wakes at 0, kind 3 with it at 6", Halls.wakes(x), 0, 0, 0, 6);
        Check.due("two blocks", x.count(6), 2);
        Check.due("plan(6)", x.plan(6), 11);
        Check.due("wakes", Halls.wakes(x), 0, 0, 0, 6);
        Check.due("plan(20)", x.plan(20), 11);
        Check.due("none at 6", Halls.wakes(x), 0, 0, 0, 0);
        Check.due("four blocks", x.count(6), 4);
    }

    // "of these KIND 0's WAKE the least, then KIND 1's, and so on"
    private static void leastWakes() {
        BootHall x = new BootHall();
        for (int kind = 0; kind < 4; kind++) {
            x.machine(kind, 0, 0);
        }
        x.file(1, -1);
        x.width(8);
        // One of the four ends it at 33, whatever the others do; two of two kinds want one sending.
        Check.read(x, 0, "file 0 if kind == 3 and tick == 30; file 0 if kind != 3;");
        Check.due("plan(10)", x.plan(10), 33);
        Check.due("all at 30, for one sending; kind 3 asks its fifth time then", Halls.wakes(x), 30, 30, 30, 0);
        x.lose(0, 30);
        x.lose(1, 30);
        x.lose(2, 30);
        Check.due("not at 30: each that can ends ahead of it", x.plan(10), 33);
        Check.due("all at 0, for two sendings", Halls.wakes(x), 0, 0, 0, 0);
        Check.due("two", x.count(6), 2);
    }

    private static void endless() {
        BootHall x = new BootHall();
        x.machine(0, 0, 0);
        x.machine(1, 0, 0);
        x.file(1, -1);
        // Kind 0 waits for kind 1, which has no answer but when it wakes late.
        Check.read(x, 0, "file 0 if kind == 0; after 1 if kind == 0; file 0 if kind == 1 and 60 <= tick;");
        Check.due("plan(7)", x.plan(7), -1);
        Check.due("no wake helps", Halls.wakes(x), 0, 0, 0, 0);
        Check.due("plan(20)", x.plan(20), 67);
        Check.due("one does", Halls.wakes(x), 0, 60, 0, 0);
        Check.due("both up", x.up(), 3);
    }

    // "by which the most MACHINES are UP": one in RESCUE is none, but it ends
    private static void rescueIsAnEnd() {
        BootHall x = new BootHall();
        x.machine(0, 0, 0);
        Check.due("never up", x.plan(20), 30);
        Check.due("the least", Halls.wakes(x), 0, 0, 0, 0);
        x.cut(0, 269);
        Check.due("cut: in rescue again, just not in time", x.plan(1), -1);
        x.cut(0, 270);
        x.file(1, -1);
        Check.read(x, 0, "file 0 if begun == 1 and 3 <= tick and tries == 0;");
        Check.due("up late or not: off at last in each", x.plan(1), -1);
        Check.due("so the fewest blocks, the least wake", Halls.wakes(x), 0, 0, 0, 0);
    }

    /** What plan() chooses is what all choices, told by wake() to halls of their own, show to be the best. */
    private static void asAllWakesTried() {
        int[] steps = {1, 3, 20};
        for (int s : steps) {
            int best = -1;
            int[] bestRank = null;
            for (int choice = 0; choice < 256; choice++) {
                BootHall x = crowd();
                for (int kind = 0; kind < 4; kind++) {
                    x.wake(kind, (choice >> (6 - 2 * kind) & 3) * s);
                }
                int end = x.ends();
                int[] rank = {-Integer.bitCount(x.up()), end < 0 ? 300 : end, x.count(6)};
                if (bestRank == null || java.util.Arrays.compare(rank, bestRank) < 0) {
                    bestRank = rank;
                    best = choice;
                }
            }
            BootHall x = crowd();
            Check.due("plan(" + s + ")", x.plan(s), bestRank[1] == 300 ? -1 : bestRank[1]);
            Check.due("its wakes", Halls.wakes(x), (best >> 6) * s, (best >> 4 & 3) * s, (best >> 2 & 3) * s, (best & 3) * s);
            Check.due("its machines", -Integer.bitCount(x.up()), bestRank[0]);
            Check.due("its blocks", x.count(6), bestRank[2]);
        }
    }

    private static BootHall crowd() {
        BootHall x = new BootHall();
        for (int i = 0; i < 8; i++) {
            x.machine(i % 4, i, 0);
        }
        x.file(5, 1);
        x.file(7, -1);
        x.file(4, -1);
        x.file(9, -1);
        x.width(1);
        Check.read(x, 0, "file 0 if kind == 0; file 1 if kind == 1; file 2 if kind == 2; file 3 if kind == 3; after 2 if place == 4;");
        x.lose(3, 7);
        x.cut(6, 25);
        x.spoil(1, 2, 9);
        return x;
    }
}
