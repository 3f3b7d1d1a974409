import java.util.function.ToIntFunction;

/**
 * Promises 6 to 13, 22, 23 and the limits in 'Terms': of each the last value that is taken, and then does what it
 * should, the first one that is refused on each side, and that a refused call changes nothing.
 */
final class ToldTest {
    public static void main(String[] args) {
        machineTakes();
        machineRefuses();
        machinesEightAtMost();
        fileTakes();
        fileRefuses();
        filesSixAtMost();
        fileNextNotThereYet();
        widthTwoAtFirst();
        widthTakes();
        widthRefuses();
        wakeZeroAtFirst();
        wakeTakes();
        wakeRefuses();
        loseTakes();
        loseRefuses();
        spoilTakes();
        spoilRefuses();
        downTakes();
        downRefuses();
        cutTakes();
        cutRefuses();
        factsAreNumbered();
        factsTwoHundredAtMost();
        toldTwice();
        manyOfOneTick();
        wakesRefuses();
        counts();
        countRefuses();
        Check.finish();
    }

    private static void refused(String call, ToIntFunction<BootHall> refused) {
        Same.behindRefused(call, -1, Halls::busy, refused);
    }

    private static void refusedWhenFull(String call, ToIntFunction<BootHall> refused) {
        Same.behindRefused(call + " of a full hall", -1, Halls::full, refused);
    }

    // "a KIND (0 .. 3), a PLACE (0 .. 7), a MARK (0 .. 99)"
    private static void machineTakes() {
        int[][] corners = {{0, 0, 0}, {3, 0, 0}, {0, 7, 0}, {0, 0, 99}, {3, 7, 99}, {1, 6, 1}, {2, 1, 98}};
        for (int[] c : corners) {
            BootHall x = new BootHall();
            x.file(1, -1);
            String machine = "machine(" + c[0] + ", " + c[1] + ", " + c[2] + ")";
            Check.due(machine, x.machine(c[0], c[1], c[2]), 0);
            Check.read(x, 0, "file 0 if kind == " + c[0] + " and place == " + c[1] + " and mark == " + c[2] + ";");
            Check.due(machine + " as it was told", x.answer(0, 0, 0), 0);
        }
    }

    // "NONE, and nothing happens: .. no such KIND, PLACE, MARK"
    private static void machineRefuses() {
        for (int bad : Same.outside(0, 3)) {
            refused("machine(" + bad + ", 0, 0)", x -> x.machine(bad, 0, 0));
        }
        for (int bad : Same.outside(0, 7)) {
            refused("machine(0, " + bad + ", 0)", x -> x.machine(0, bad, 0));
        }
        for (int bad : Same.outside(0, 99)) {
            refused("machine(0, 0, " + bad + ")", x -> x.machine(0, 0, bad));
        }
    }

    // "MACHINES, 8 at most, numbered from 0 on"; "NONE, and nothing happens: 8 are there"
    private static void machinesEightAtMost() {
        BootHall x = new BootHall();
        x.file(1, -1);
        Check.read(x, 0, "file 0 if mark == 17;");
        for (int i = 0; i < 8; i++) {
            Check.due("machine " + i, x.machine(i % 4, i, 10 + i), i);
            Check.due("machines by then", x.count(0), i + 1);
        }
        Check.due("the eighth is a whole one", x.up(), 128);
        Check.due("a ninth", x.machine(0, 0, 17), -1);
        Check.due("still eight", x.count(0), 8);
        Check.due("no state of a ninth", x.state(8, 0, 0), -1000000);
        refusedWhenFull("machine(0, 0, 0)", y -> y.machine(0, 0, 0));
        refusedWhenFull("machine(3, 7, 99)", y -> y.machine(3, 7, 99));
    }

    // "BLOCKS (1 .. 12)"; "next NONE: an IMAGE"; NONE .. 5
    private static void fileTakes() {
        for (int blocks = 1; blocks <= 12; blocks++) {
            BootHall x = Halls.simple(1, blocks);
            Check.due("last of " + blocks, x.sent(0, blocks - 1), 1);
            Check.due("behind the last of " + blocks, x.sent(0, blocks), -1);
            Check.due("blocks in all of " + blocks, x.count(6), blocks);
            Check.due("an image of " + blocks, x.state(0, 299, 3), 0);
            Check.due("ends with " + blocks, x.ends(), 2 * blocks + 1);
        }
        for (int next = 0; next <= 5; next++) {
            BootHall x = new BootHall();
            x.machine(0, 0, 0);
            Check.due("file(1, " + next + ")", x.file(1, next), 0);
            for (int i = 1; i < 6; i++) {
                x.file(2, -1);
            }
            Check.read(x, 0, "file 0;");
            Check.due("it loads " + next, x.state(0, 1, 1), next);
        }
    }

    // "NONE, and nothing happens: .. no such BLOCKS, next not NONE .. 5"
    private static void fileRefuses() {
        for (int bad : Same.outside(1, 12)) {
            refused("file(" + bad + ", -1)", x -> x.file(bad, -1));
            refused("file(" + bad + ", 0)", x -> x.file(bad, 0));
        }
        for (int bad : Same.outside(-1, 5)) {
            refused("file(1, " + bad + ")", x -> x.file(1, bad));
        }
    }

    // "FILES, 6 at most"; "NONE, and nothing happens: 6 are there"
    private static void filesSixAtMost() {
        BootHall x = new BootHall();
        x.machine(0, 0, 0);
        Check.read(x, 0, "file 5;");
        for (int i = 0; i < 6; i++) {
            Check.due("no file 5 yet", x.answer(0, 0, 0), -2);
            Check.due("file " + i, x.file(i + 1, -1), i);
            Check.due("files by then", x.count(1), i + 1);
        }
        Check.due("the sixth is a whole one", x.state(0, 299, 3), 5);
        Check.due("a seventh", x.file(1, -1), -1);
        Check.due("still six", x.count(1), 6);
        refusedWhenFull("file(1, -1)", y -> y.file(1, -1));
        refusedWhenFull("file(12, 5)", y -> y.file(12, 5));
    }

    // "next may be one that is not there yet"
    private static void fileNextNotThereYet() {
        BootHall x = new BootHall();
        x.machine(0, 0, 0);
        Check.due("file(1, 1)", x.file(1, 1), 0);
        Check.read(x, 0, "file 0;");
        Check.due("not there", x.state(0, 1, 4), 5);
        Check.due("file(1, -1)", x.file(1, -1), 1);
        Check.due("there", x.state(0, 1, 1), 1);
        Check.due("up with it", x.state(0, 4, 3), 1);
    }

    /** In tick 3 eight unlike blocks are wanted, if all that were wanted ahead were sent. */
    private static BootHall manyWants() {
        BootHall x = new BootHall();
        for (int i = 0; i < 6; i++) {
            x.machine(0, i, 0);
            x.file(12, -1);
        }
        x.machine(1, 0, 0);
        x.machine(2, 0, 0);
        x.wake(1, 1);
        x.wake(2, 2);
        Check.read(x, 0, "file 0 if place == 0; file 1 if place == 1; file 2 if place == 2;"
            + "file 3 if place == 3; file 4 if place == 4; file 5 if place == 5;");
        return x;
    }

    // "its WIDTH, 1 .. 8; 2 at first"
    private static void widthTwoAtFirst() {
        Check.due("count(5) at first", new BootHall().count(5), 2);
        Check.due("sends(3) at first", manyWants().sends(3), 2);
    }

    // "WIDTH becomes w: true"
    private static void widthTakes() {
        for (int w = 1; w <= 8; w++) {
            BootHall x = manyWants();
            Check.due("width(" + w + ")", x.width(w), true);
            Check.due("count(5) behind it", x.count(5), w);
            Check.due("sends(3) of width " + w, x.sends(3), w);
        }
        BootHall alike = Halls.simple(8, 1);
        alike.width(8);
        Check.due("no more than the unlike ones that are wanted", alike.sends(1), 1);
    }

    // "false for others"
    private static void widthRefuses() {
        for (int bad : Same.outside(1, 8)) {
            Same.behindRefused("width(" + bad + ")", 0, Halls::busy, x -> x.width(bad) ? 1 : 0);
            Same.behindRefused("width(" + bad + ") of a full hall", 0, Halls::full, x -> x.width(bad) ? 1 : 0);
        }
    }

    // "KINDS WAKE at a told TICK (0 at first)"
    private static void wakeZeroAtFirst() {
        for (int kind = 0; kind < 4; kind++) {
            BootHall x = new BootHall();
            x.machine(kind, 0, 0);
            Check.due("wakes(" + kind + ") at first", x.wakes(kind), 0);
            Check.due("awake at once: kind " + kind, x.state(0, 0, 8), 1);
        }
    }

    // "A KIND WAKES at a TICK (0 .. 299): true"
    private static void wakeTakes() {
        for (int kind = 0; kind < 4; kind++) {
            BootHall x = new BootHall();
            for (int i = 0; i < 4; i++) {
                x.machine(i, 0, 0);
            }
            Check.due("wake(" + kind + ", 299)", x.wake(kind, 299), true);
            Check.due("wakes(" + kind + ")", x.wakes(kind), 299);
            Check.due("a tick ahead", x.state(kind, 298, 8), 0);
            Check.due("then", x.state(kind, 299, 8), 1);
            Check.due("another kind", x.state((kind + 1) % 4, 0, 8), 1);
            Check.due("another kind's wakes", x.wakes((kind + 1) % 4), 0);
            Check.due("wake(" + kind + ", 1)", x.wake(kind, 1), true);
            Check.due("off at 0", x.state(kind, 0, 0), 0);
            Check.due("asks at 1", x.state(kind, 1, 0), 1);
            Check.due("wake(" + kind + ", 0)", x.wake(kind, 0), true);
            Check.due("asks at 0", x.state(kind, 0, 0), 1);
        }
    }

    // "false: no such ones"
    private static void wakeRefuses() {
        for (int bad : Same.outside(0, 3)) {
            Same.behindRefused("wake(" + bad + ", 9)", 0, Halls::busy, x -> x.wake(bad, 9) ? 1 : 0);
        }
        for (int bad : Same.outside(0, 299)) {
            for (int kind = 0; kind < 4; kind++) {
                int k = kind;
                Same.behindRefused("wake(" + k + ", " + bad + ")", 0, Halls::busy, x -> x.wake(k, bad) ? 1 : 0);
            }
        }
    }

    // "In a TICK letters of a MACHINE are LOST": that TICK, and that MACHINE alone
    private static void loseTakes() {
        BootHall x = Halls.simple(8, 1);
        Check.due("lose(0, 0)", x.lose(0, 0), 0);
        Check.due("lose(7, 0)", x.lose(7, 0), 1);
        for (int i = 0; i < 8; i++) {
            Check.due("TRIES of " + i, x.state(i, 0, 5), i == 0 || i == 7 ? 1 : 0);
        }
        Check.due("a tick later they are not", x.state(7, 2, 0), 2);
        BootHall y = Halls.simple(8, 1);
        y.wake(0, 298);
        Check.due("lose(7, 299)", y.lose(7, 299), 0);
        Check.due("asked a tick ahead", y.state(7, 298, 0), 2);
        Check.due("lost in the last tick", y.state(7, 299, 7), 1);
        Check.due("another's are not", y.state(6, 299, 0), 3);
    }

    // "NONE, and nothing happens: .. no such ones"; a MACHINE that is not there is none, though there is room for it
    private static void loseRefuses() {
        for (int bad : Same.outside(0, 2)) {
            refused("lose(" + bad + ", 2)", x -> x.lose(bad, 2));
        }
        for (int bad : Same.outside(0, 299)) {
            refused("lose(0, " + bad + ")", x -> x.lose(0, bad));
        }
        Same.behindRefused("lose(0, 0) of no machine", -1, x -> x.file(1, -1), x -> x.lose(0, 0));
    }

    // "In a TICK a block of a FILE is WRONG": that TICK, that FILE, that block alone
    private static void spoilTakes() {
        BootHall x = Halls.simple(1, 2);
        x.wake(0, 297);
        Check.due("installs", x.state(0, 299, 0), 3);
        Check.due("spoil(0, 0, 299)", x.spoil(0, 0, 299), 0);
        Check.due("spoil(0, 1, 298)", x.spoil(0, 1, 298), 1);
        Check.due("still", x.state(0, 299, 0), 3);
        Check.due("spoil(0, 1, 299)", x.spoil(0, 1, 299), 2);
        Check.due("wrong in the last tick", x.state(0, 299, 6), 1);
        x.wake(0, 0);
        Check.due("spoil(0, 0, 0)", x.spoil(0, 0, 0), 3);
        Check.due("nothing is sent in tick 0", x.state(0, 1, 2), 1);
        for (int file = 0; file < 6; file++) {
            for (int block = 0; block < 12; block++) {
                oneWrong(file, block);
            }
        }
    }

    private static void oneWrong(int file, int block) {
        BootHall x = new BootHall();
        for (int i = 0; i < 6; i++) {
            x.file(12, -1);
            x.machine(i % 4, i, 0);
        }
        x.width(8);
        Check.read(x, 0, "file 0 if place == 0; file 1 if place == 1; file 2 if place == 2;"
            + "file 3 if place == 3; file 4 if place == 4; file 5 if place == 5;");
        Check.due("spoil(" + file + ", " + block + ", " + (block + 1) + ")", x.spoil(file, block, block + 1), 0);
        for (int i = 0; i < 6; i++) {
            Check.due("BAD of who loads " + i + " behind it", x.state(i, 30, 6), i == file ? 1 : 0);
            Check.due("block of who loads " + i + " then", x.state(i, block + 1, 0) == 3 ? 12 : x.state(i, block + 1, 2),
                i == file ? block : block + 1);
        }
    }

    // "NONE, and nothing happens: .. no such FILE, block, TICK"; each FILE has its own BLOCKS: 2, 3 and 1 here
    private static void spoilRefuses() {
        for (int bad : Same.outside(0, 2)) {
            refused("spoil(" + bad + ", 0, 2)", x -> x.spoil(bad, 0, 2));
        }
        int[] blocks = {2, 3, 1};
        for (int file = 0; file < 3; file++) {
            int f = file;
            for (int bad : Same.outside(0, blocks[f] - 1)) {
                refused("spoil(" + f + ", " + bad + ", 2)", x -> x.spoil(f, bad, 2));
            }
            int last = blocks[f] - 1;
            BootHall x = new BootHall();
            Halls.busy(x);
            Check.due("spoil of the last block of " + f, x.spoil(f, last, 2), 4);
        }
        for (int bad : Same.outside(0, 299)) {
            refused("spoil(0, 0, " + bad + ")", x -> x.spoil(0, 0, bad));
        }
        Same.behindRefused("spoil(0, 0, 0) of no file", -1, x -> x.machine(0, 0, 0), x -> x.spoil(0, 0, 0));
    }

    // "A KEEPER is DOWN in TICKS a .. b - 1"
    private static void downTakes() {
        int[][] spans = {{0, 1}, {0, 300}, {5, 6}, {5, 9}, {298, 300}, {299, 300}};
        for (int keeper = 0; keeper < 2; keeper++) {
            for (int[] span : spans) {
                BootHall x = new BootHall();
                x.machine(0, 0, 0);
                x.file(1, -1);
                Check.read(x, keeper, "file 0;");
                String down = "down(" + keeper + ", " + span[0] + ", " + span[1] + ")";
                Check.due(down, x.down(keeper, span[0], span[1]), 0);
                int[] ticks = {span[0] - 1, span[0], span[1] - 1, span[1]};
                for (int tick : ticks) {
                    if (x.wake(0, tick)) {
                        Check.due(down + " in tick " + tick, x.state(0, tick, 5), tick >= span[0] && tick < span[1] ? 1 : 0);
                    }
                }
            }
        }
        BootHall y = new BootHall();
        y.machine(0, 0, 0);
        y.file(1, -1);
        Check.read(y, 0, "file 0;");
        Check.due("down of the other keeper", y.down(1, 0, 300), 0);
        Check.due("is nothing to this one", y.state(0, 0, 0), 2);
    }

    // "NONE, and nothing happens: .. no such KEEPER, a not 0 .. b - 1, b above 300"
    private static void downRefuses() {
        for (int bad : Same.outside(0, 1)) {
            refused("down(" + bad + ", 0, 9)", x -> x.down(bad, 0, 9));
        }
        for (int bad : Same.outside(0, 8)) {
            refused("down(0, " + bad + ", 9)", x -> x.down(0, bad, 9));
        }
        for (int bad : Same.outside(1, 300)) {
            refused("down(0, 0, " + bad + ")", x -> x.down(0, 0, bad));
        }
        int[][] spans = {{5, 5}, {6, 5}, {0, -1}, {-1, 0}, {-1, 1}, {-2, -1}, {299, 299}, {299, 301}, {300, 300}, {300, 301}, {-1, 300},
            {Integer.MIN_VALUE, Integer.MIN_VALUE}, {Integer.MAX_VALUE, Integer.MIN_VALUE}, {Integer.MAX_VALUE, Integer.MAX_VALUE}};
        for (int[] span : spans) {
            refused("down(1, " + span[0] + ", " + span[1] + ")", x -> x.down(1, span[0], span[1]));
        }
    }

    // "In a TICK the power of a MACHINE is CUT": that TICK, and that MACHINE alone
    private static void cutTakes() {
        BootHall x = Halls.simple(8, 1);
        Check.due("cut(0, 0)", x.cut(0, 0), 0);
        Check.due("cut(7, 299)", x.cut(7, 299), 1);
        Check.due("0 in tick 0", x.state(0, 0, 0), 0);
        Check.due("1 in tick 0", x.state(1, 0, 0), 2);
        Check.due("7 in tick 298", x.state(7, 298, 0), 4);
        Check.due("7 in tick 299", x.state(7, 299, 0), 0);
        Check.due("6 in tick 299", x.state(6, 299, 0), 4);
        Check.due("up", x.up(), 127);
    }

    // "NONE, and nothing happens: .. no such ones"
    private static void cutRefuses() {
        for (int bad : Same.outside(0, 2)) {
            refused("cut(" + bad + ", 2)", x -> x.cut(bad, 2));
        }
        for (int bad : Same.outside(0, 299)) {
            refused("cut(0, " + bad + ")", x -> x.cut(0, bad));
        }
        Same.behindRefused("cut(0, 0) of no machine", -1, x -> x.file(1, -1), x -> x.cut(0, 0));
    }

    // "its FACT's number": one row for all four sorts
    private static void factsAreNumbered() {
        BootHall x = Halls.simple(1, 3);
        for (int i = 0; i < 200; i++) {
            int got = i % 4 == 0 ? x.lose(0, i) : i % 4 == 1 ? x.spoil(0, 0, i) : i % 4 == 2 ? x.down(1, i, i + 1) : x.cut(0, 200 + i / 4);
            Check.due("fact " + i, got, i);
            Check.due("facts by then", x.count(4), i + 1);
        }
    }

    // "FACTS, 200 at most"; "NONE, and nothing happens: 200 are there"
    private static void factsTwoHundredAtMost() {
        BootHall x = Halls.simple(1, 1);
        for (int i = 0; i < 199; i++) {
            x.lose(0, 299);
        }
        Check.due("the 200th", x.cut(0, 1), 199);
        Check.due("counts", x.state(0, 1, 0), 0);
        Check.due("a 201st", x.cut(0, 50), -1);
        Check.due("does not", x.state(0, 50, 0), 4);
        Check.due("200", x.count(4), 200);
        refusedWhenFull("lose(7, 298)", y -> y.lose(7, 298));
        refusedWhenFull("lose(0, 1)", y -> y.lose(0, 1));
        refusedWhenFull("spoil(5, 0, 1)", y -> y.spoil(5, 0, 1));
        refusedWhenFull("down(0, 0, 300)", y -> y.down(0, 0, 300));
        refusedWhenFull("cut(0, 1)", y -> y.cut(0, 1));
        refusedWhenFull("cut(7, 299)", y -> y.cut(7, 299));
    }

    /** Nothing forbids it: what is told twice has two numbers, and holds as if told once. */
    private static void toldTwice() {
        BootHall x = Halls.simple(1, 1);
        Check.due("lose", x.lose(0, 0), 0);
        Check.due("lose again", x.lose(0, 0), 1);
        Check.due("TRIES", x.state(0, 0, 5), 1);
        Check.due("spoil", x.spoil(0, 0, 3), 2);
        Check.due("spoil again", x.spoil(0, 0, 3), 3);
        Check.due("BAD", x.state(0, 3, 6), 1);
        Check.due("down", x.down(0, 0, 3), 4);
        Check.due("down again, in part", x.down(0, 2, 3), 5);
        Check.due("TRIES then", x.state(0, 2, 5), 2);
        Check.due("cut", x.cut(0, 2), 6);
        Check.due("cut again", x.cut(0, 2), 7);
        Check.due("begins", x.state(0, 5, 8), 2);
        Check.due("eight", x.count(4), 8);
    }

    /** Facts of one TICK leave one another alone, in whichever order they are told. */
    private static void manyOfOneTick() {
        for (int first = 0; first < 4; first++) {
            BootHall x = new BootHall();
            for (int i = 0; i < 6; i++) {
                x.machine(i % 4, i, 0);
                x.file(2, -1);
            }
            x.width(8);
            Check.read(x, 0, "file 0 if place == 0; file 1 if place == 1; file 2 if place == 2;"
                + "file 3 if place == 3; file 4 if place == 4; file 5 if place == 5;");
            for (int i = 0; i < 4; i++) {
                tellOfTickOne(x, (first + i) % 4);
            }
            Check.due("0 is LOST", x.state(0, 1, 7), 1);
            Check.due("1's is WRONG", x.state(1, 1, 6), 1);
            Check.due("2's is WRONG", x.state(2, 1, 6), 1);
            Check.due("3 is LOST", x.state(3, 1, 7), 1);
            Check.due("4 is CUT", x.state(4, 1, 0), 0);
            Check.due("5 is CUT", x.state(5, 1, 0), 0);
            x.wake(0, 1);
            Check.read(x, 1, "file 0;");
            Check.due("both are DOWN: 0 has no answer", x.state(0, 1, 5), 1);
            x.wake(0, 0);
            x.wake(2, 1);
            Check.due("both are DOWN: 2 has none", x.state(2, 1, 5), 1);
            Check.due("and two ticks later it has", x.state(2, 3, 0), 2);
        }
    }

    private static void tellOfTickOne(BootHall x, int sort) {
        switch (sort) {
            case 0:
                x.lose(0, 1);
                x.lose(3, 1);
                break;
            case 1:
                x.spoil(1, 0, 1);
                x.spoil(2, 0, 1);
                x.spoil(2, 1, 1);
                break;
            case 2:
                x.cut(4, 1);
                x.cut(5, 1);
                break;
            default:
                x.down(0, 1, 2);
                x.down(1, 0, 2);
                break;
        }
    }

    // "The WAKE of a KIND; NONE: no such one"
    private static void wakesRefuses() {
        for (int bad : Same.outside(0, 3)) {
            refused("wakes(" + bad + ")", x -> x.wakes(bad));
        }
    }

    // promise 23, each of its numbers
    private static void counts() {
        BootHall x = new BootHall();
        x.machine(0, 0, 0);
        x.machine(1, 0, 0);
        x.file(2, -1);
        Check.read(x, 0, "file 0; after 1 if kind == 0;");
        Check.read(x, 1, "file 0; file 0; file 0;");
        Check.type(x, "abc");
        x.width(3);
        x.lose(0, 290);
        int[] want = {2, 1, 2, 3, 1, 3, 4, 3};
        for (int what = 0; what < want.length; what++) {
            Check.due("count " + what, x.count(what), want[what]);
        }
    }

    // "NONE for others"
    private static void countRefuses() {
        for (int bad : Same.outside(0, 7)) {
            refused("count(" + bad + ")", x -> x.count(bad));
        }
    }
}
