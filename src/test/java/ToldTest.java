/** Promises 6 to 13, 22, 23: what can be told, its limits, and what is refused without a trace. */
final class ToldTest {
    private static final int[] OUTSIDE = {-1, -2, Integer.MIN_VALUE, Integer.MAX_VALUE};

    public static void main(String[] args) {
        machines();
        files();
        widths();
        wakes();
        facts();
        factRoom();
        counts();
        Check.finish();
    }

    private static void machines() {
        BootHall x = new BootHall();
        for (int bad : OUTSIDE) {
            Check.due("machine kind " + bad, x.machine(bad, 0, 0), -1);
            Check.due("machine place " + bad, x.machine(0, bad, 0), -1);
            Check.due("machine mark " + bad, x.machine(0, 0, bad), -1);
        }
        Check.due("machine kind 4", x.machine(4, 0, 0), -1);
        Check.due("machine place 8", x.machine(0, 8, 0), -1);
        Check.due("machine mark 100", x.machine(0, 0, 100), -1);
        Check.due("none is there", x.count(0), 0);
        for (int i = 0; i < 8; i++) {
            Check.due("machine " + i, x.machine(i % 4, i, 99 - i), i);
        }
        Check.due("a 9th", x.machine(0, 0, 0), -1);
        Check.due("eight", x.count(0), 8);
    }

    private static void files() {
        BootHall x = new BootHall();
        for (int bad : OUTSIDE) {
            Check.due("file blocks " + bad, x.file(bad, -1), -1);
            if (bad != -1) {
                Check.due("file next " + bad, x.file(1, bad), -1);
            }
        }
        Check.due("file blocks 0", x.file(0, -1), -1);
        Check.due("file blocks 13", x.file(13, -1), -1);
        Check.due("file next 6", x.file(1, 6), -1);
        Check.due("none is there", x.count(1), 0);
        for (int i = 0; i < 6; i++) {
            Check.due("file " + i, x.file(i == 0 ? 1 : 12, i == 0 ? -1 : 6 - i), i);
        }
        Check.due("a 7th", x.file(1, -1), -1);
        Check.due("six", x.count(1), 6);
        Check.due("sent of the last block", x.sent(5, 11), 0);
        Check.due("sent behind it", x.sent(5, 12), -1);
        Check.due("sent of file 0", x.sent(0, 0), 0);
        Check.due("sent behind file 0's", x.sent(0, 1), -1);
        Check.due("sent of no file", x.sent(6, 0), -1);
        Check.due("sent of file -1", x.sent(-1, 0), -1);
        Check.due("sent of block -1", x.sent(0, -1), -1);
    }

    private static void widths() {
        BootHall x = new BootHall();
        Check.due("width 1", x.width(1), true);
        Check.due("width 0", x.width(0), false);
        Check.due("width 9", x.width(9), false);
        for (int bad : OUTSIDE) {
            Check.due("width " + bad, x.width(bad), false);
        }
        Check.due("still 1", x.count(5), 1);
        Check.due("width 8", x.width(8), true);
        Check.due("now 8", x.count(5), 8);
    }

    private static void wakes() {
        BootHall x = new BootHall();
        Check.due("wake 0 299", x.wake(0, 299), true);
        Check.due("wake 3 5", x.wake(3, 5), true);
        Check.due("wake 3 300", x.wake(3, 300), false);
        Check.due("wake 4 0", x.wake(4, 0), false);
        for (int bad : OUTSIDE) {
            Check.due("wake kind " + bad, x.wake(bad, 0), false);
            Check.due("wake tick " + bad, x.wake(0, bad), false);
            Check.due("wakes " + bad, x.wakes(bad), -1);
        }
        Check.due("wakes 0", x.wakes(0), 299);
        Check.due("wakes 1", x.wakes(1), 0);
        Check.due("wakes 3", x.wakes(3), 5);
        Check.due("wakes 4", x.wakes(4), -1);
    }

    private static void facts() {
        BootHall x = new BootHall();
        Check.due("lose of none", x.lose(0, 0), -1);
        Check.due("cut of none", x.cut(0, 0), -1);
        Check.due("spoil of none", x.spoil(0, 0, 0), -1);
        x.machine(0, 0, 0);
        x.file(3, -1);
        for (int bad : OUTSIDE) {
            Check.due("lose machine " + bad, x.lose(bad, 0), -1);
            Check.due("lose tick " + bad, x.lose(0, bad), -1);
            Check.due("cut machine " + bad, x.cut(bad, 0), -1);
            Check.due("cut tick " + bad, x.cut(0, bad), -1);
            Check.due("spoil file " + bad, x.spoil(bad, 0, 0), -1);
            Check.due("spoil block " + bad, x.spoil(0, bad, 0), -1);
            Check.due("spoil tick " + bad, x.spoil(0, 0, bad), -1);
            Check.due("down keeper " + bad, x.down(bad, 0, 1), -1);
            Check.due("down from " + bad, x.down(0, bad, 1), -1);
            Check.due("down to " + bad, x.down(0, 0, bad), -1);
        }
        Check.due("lose(1, 0)", x.lose(1, 0), -1);
        Check.due("lose(0, 300)", x.lose(0, 300), -1);
        Check.due("cut(1, 0)", x.cut(1, 0), -1);
        Check.due("cut(0, 300)", x.cut(0, 300), -1);
        Check.due("spoil(1, 0, 0)", x.spoil(1, 0, 0), -1);
        Check.due("spoil(0, 3, 0)", x.spoil(0, 3, 0), -1);
        Check.due("spoil(0, 0, 300)", x.spoil(0, 0, 300), -1);
        Check.due("down(2, 0, 1)", x.down(2, 0, 1), -1);
        Check.due("down(0, 5, 5)", x.down(0, 5, 5), -1);
        Check.due("down(0, 6, 5)", x.down(0, 6, 5), -1);
        Check.due("down(0, 0, 301)", x.down(0, 0, 301), -1);
        Check.due("down(0, 300, 301)", x.down(0, 300, 301), -1);
        Check.due("no fact", x.count(4), 0);
        Check.due("lose(0, 299)", x.lose(0, 299), 0);
        Check.due("spoil(0, 2, 299)", x.spoil(0, 2, 299), 1);
        Check.due("down(1, 0, 300)", x.down(1, 0, 300), 2);
        Check.due("down(1, 299, 300)", x.down(1, 299, 300), 3);
        Check.due("cut(0, 299)", x.cut(0, 299), 4);
        Check.due("the same again", x.cut(0, 299), 5);
        Check.due("six facts", x.count(4), 6);
    }

    private static void factRoom() {
        BootHall x = new BootHall();
        x.machine(0, 0, 0);
        x.file(3, -1);
        for (int i = 0; i < 200; i++) {
            int got = i % 4 == 0 ? x.lose(0, i) : i % 4 == 1 ? x.spoil(0, 0, i) : i % 4 == 2 ? x.down(1, i, i + 1) : x.cut(0, 200 + i / 4);
            Check.due("fact " + i, got, i);
        }
        Check.due("a 201st lose", x.lose(0, 298), -1);
        Check.due("a 201st spoil", x.spoil(0, 0, 298), -1);
        Check.due("a 201st down", x.down(0, 0, 300), -1);
        Check.due("a 201st cut", x.cut(0, 299), -1);
        Check.due("200 facts", x.count(4), 200);
        Check.due("the refused cut did not happen", x.state(0, 299, 0) != 0, true);
    }

    private static void counts() {
        BootHall x = new BootHall();
        for (int bad : OUTSIDE) {
            Check.due("count " + bad, x.count(bad), -1);
        }
        Check.due("count 8", x.count(8), -1);
        x.machine(0, 0, 0);
        x.machine(1, 0, 0);
        x.file(2, -1);
        Check.read(x, 0, "file 0; after 1 if kind == 0;");
        Check.read(x, 1, "file 0; file 0; file 0;");
        Check.type(x, "abc");
        x.width(3);
        x.lose(0, 290);
        int[] want = {2, 1, 2, 3, 1, 3, 4, 3};
        for (int what = 0; what < want.length; what++) {
            Check.due("count " + what, x.count(what), want[what]);
        }
    }
}
