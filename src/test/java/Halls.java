/** Halls that several tests begin with, and rows of answers about one. */
final class Halls {
    private Halls() {
    }

    /** A hall of so many machines of kind 0 that all load file 0, an image. */
    static BootHall simple(int machines, int blocks) {
        BootHall x = new BootHall();
        for (int i = 0; i < machines; i++) {
            x.machine(0, i, i);
        }
        x.file(blocks, -1);
        Check.read(x, 0, "file 0;");
        return x;
    }

    /** Something of each sort is told: three machines, three files, both texts, four facts, a fault's place, and a tape. */
    static void busy(BootHall x) {
        x.machine(0, 0, 5);
        x.machine(1, 1, 6);
        x.machine(0, 2, 7);
        x.file(2, 1);
        x.file(3, -1);
        x.file(1, 4);
        x.width(1);
        x.wake(1, 4);
        Check.read(x, 0, "file 0 if mark != 7; file 2 if mark == 7 and begun < 2; after 0 if kind == 1 and tick < 20;");
        Check.read(x, 1, "file 1 if tick < 30;");
        x.lose(0, 1);
        x.spoil(1, 0, 6);
        x.down(0, 0, 2);
        x.cut(2, 12);
        Check.read(x, 1, "file 0; file");
        Check.type(x, "file 2 if mark == 6; file 0;");
    }

    /** busy() with an empty tape. */
    static void busyWithoutTape(BootHall x) {
        busy(x);
        x.back(x.count(7));
    }

    /** Nothing more finds room: 8 machines, 6 files, 200 facts. */
    static void full(BootHall x) {
        for (int i = 0; i < 8; i++) {
            x.machine(i % 4, i, 10 * i);
        }
        for (int i = 0; i < 6; i++) {
            x.file(1 + i, i < 3 ? i + 1 : -1);
        }
        Check.read(x, 0, "file 5 if kind == 0; file 4 if kind == 1; file 3 if kind == 2; file 2 if kind == 3;");
        for (int i = 0; i < 50; i++) {
            x.lose(i % 8, 3 * i);
            x.spoil(i % 6, 0, 2 * i);
            x.down(1, i, i + 1);
            x.cut(i % 8, 100 + i);
        }
    }

    /** All of state()'s answers. */
    static int[] all(BootHall x, int machine, int tick) {
        int[] answers = new int[10];
        for (int what = 0; what < 10; what++) {
            answers[what] = x.state(machine, tick, what);
        }
        return answers;
    }

    static int[] log(BootHall x, int machine) {
        int n = 0;
        while (x.log(machine, n) != -1) {
            n++;
        }
        int[] changes = new int[n];
        for (int i = 0; i < n; i++) {
            changes[i] = x.log(machine, i);
        }
        return changes;
    }

    static int[] wakes(BootHall x) {
        return new int[] {x.wakes(0), x.wakes(1), x.wakes(2), x.wakes(3)};
    }
}
