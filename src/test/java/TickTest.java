/** Promises 14 to 20, and part III: asking, fetching, installing, rescue, power; and how they are told. */
final class TickTest {
    public static void main(String[] args) {
        wrongInputs();
        asking();
        answers();
        keepers();
        waiting();
        giver();
        giverOrder();
        lettersLost();
        wrongBlocks();
        lateTold();
        misses();
        chains();
        cuts();
        ends();
        wakes();
        Check.finish();
    }

    private static void wrongInputs() {
        BootHall x = Halls.simple(2, 1);
        int[] outside = {-1, Integer.MIN_VALUE, Integer.MAX_VALUE, 300};
        for (int bad : outside) {
            Check.due("state of machine " + bad, x.state(bad, 0, 0), -1000000);
            Check.due("state in tick " + bad, x.state(0, bad, 0), -1000000);
            Check.due("state what " + bad, x.state(0, 0, bad), -1000000);
            Check.due("answer of keeper " + bad, x.answer(bad, 0, 0), -1);
            Check.due("answer to machine " + bad, x.answer(0, bad, 0), -1);
            Check.due("answer in tick " + bad, x.answer(0, 0, bad), -1);
            Check.due("sends " + bad, x.sends(bad), -1);
            Check.due("log of machine " + bad, x.log(bad, 0), -1);
            Check.due("log at " + bad, x.log(0, bad), -1);
        }
        Check.due("state of machine 2", x.state(2, 0, 0), -1000000);
        Check.due("state what 10", x.state(0, 0, 10), -1000000);
        Check.due("state in tick 299", x.state(0, 299, 0), 4);
        Check.due("sends(299)", x.sends(299), 0);
        Check.due("answer of keeper 2", x.answer(2, 0, 0), -1);
    }

    private static void asking() {
        BootHall x = new BootHall();
        x.machine(0, 0, 0);
        Check.due("no answer", Halls.log(x, 0), 1, 305);
        Check.due("rescue 1", Halls.all(x, 0, 30), 5, -1, -1, -1, 1, 5, 0, 0, 1, 0);
        Check.due("waits", Halls.all(x, 0, 29), 1, -1, -1, -1, 0, 4, 0, 0, 1, 0);
        int[] tries = {1, 1, 2, 2, 2, 2, 3, 3, 3, 3, 3, 3, 3, 3, 4};
        for (int t = 0; t < tries.length; t++) {
            Check.due("tries at " + t, x.state(0, t, 5), tries[t]);
        }
        Check.due("ends", x.ends(), 30);
        Check.due("up", x.up(), 0);
        x.file(1, -1);
        Check.read(x, 0, "file 0 if tries == 4;");
        Check.due("told by tries", Halls.log(x, 0), 1, 302, 313, 334);
        Check.due("TRIES stay", x.state(0, 299, 5), 4);
        Check.read(x, 0, "file 0 if tries == 0; file 1 if tick == 14;");
        x.down(0, 0, 1);
        Check.due("a clash, then none: reason", x.state(0, 30, 4), 1);
        Check.read(x, 0, "file 1 if tick == 30;");
        Check.due("none, then a clash: reason", x.state(0, 30, 4), 2);
        Check.due("reason ahead", x.state(0, 29, 4), 0);
    }

    private static void answers() {
        BootHall x = new BootHall();
        x.machine(2, 5, 77);
        x.file(1, -1);
        x.file(2, -1);
        Check.due("no text", x.answer(0, 0, 0), -1);
        Check.read(x, 1, "file 0 if kind == 2 and place == 5; file 1 if mark != 77;");
        Check.due("one holds", x.answer(1, 0, 0), 0);
        Check.due("the other keeper", x.answer(0, 0, 0), -1);
        Check.read(x, 1, "file 0; file 0 if mark == 77;");
        Check.due("two that are the same", x.answer(1, 0, 0), 0);
        Check.read(x, 1, "file 0; file 1 if mark == 77; file 0;");
        Check.due("two unlike ones", x.answer(1, 0, 0), -2);
        Check.read(x, 1, "file 2;");
        Check.due("no such file", x.answer(1, 0, 0), -2);
        x.file(1, -1);
        Check.due("now there is", x.answer(1, 0, 0), 2);
        Check.read(x, 1, "after 2 if 1 == 1;");
        Check.due("after alone", x.answer(1, 0, 0), -1);
        Check.read(x, 1, "file 1 if tries == 1; file 0 if tick == 9;");
        // Asked in tick 0 with TRIES 0: no answer; at its end TRIES is 1.
        Check.due("VARS at the end of 0", x.answer(1, 0, 0), 1);
        Check.due("fetches at 2", x.state(0, 2, 0), 2);
        Check.due("both in tick 9", x.answer(1, 0, 9), -2);
        x.down(1, 0, 300);
        x.lose(0, 0);
        Check.due("an ANSWER knows no DOWN, no LOST", x.answer(1, 0, 0), 1);
        Check.read(x, 0, "file 0 if begun == 1; file 1 if begun == 2; file 2 if begun == 0;");
        x.cut(0, 0);
        Check.due("begun 0", x.answer(0, 0, 2), 2);
        Check.due("begun 1", x.answer(0, 0, 3), 0);
        x.cut(0, 100);
        Check.due("begun 1 while off", x.answer(0, 0, 102), 0);
        Check.due("begun 2", x.answer(0, 0, 103), 1);
    }

    private static void keepers() {
        BootHall x = new BootHall();
        x.machine(0, 0, 0);
        x.file(1, -1);
        x.file(1, -1);
        Check.read(x, 0, "file 0 if tick < 50;");
        Check.read(x, 1, "file 1;");
        Check.due("keeper 0 goes ahead", x.state(0, 0, 1), 0);
        x.wake(0, 50);
        Check.due("keeper 0 has nothing", x.state(0, 50, 1), 1);
        x.wake(0, 49);
        x.down(0, 40, 50);
        Check.due("keeper 0 is down", x.state(0, 49, 1), 1);
        x.wake(0, 39);
        Check.due("a tick ahead it is not", x.state(0, 39, 1), 0);
        x.wake(0, 40);
        x.down(1, 40, 41);
        Check.due("both are down", x.state(0, 40, 5), 1);
        Check.due("and one is back", x.state(0, 42, 1), 1);
        Check.read(x, 0, "file 0; file 1;");
        x.wake(0, 0);
        Check.due("keeper 0's clash counts", x.state(0, 0, 5), 1);
        x.wake(0, 45);
        Check.due("but not when it is down", x.state(0, 45, 1), 1);
        x.wake(0, 50);
        Check.due("nor behind the span", x.state(0, 50, 5), 1);
        x.wake(0, 45);
        x.lose(0, 45);
        Check.due("lost letters: no answer", x.state(0, 45, 5), 1);
        Check.due("asks again two later", x.state(0, 47, 0), 2);
    }

    private static void waiting() {
        BootHall x = new BootHall();
        x.machine(1, 0, 0);
        x.machine(0, 0, 0);
        x.machine(1, 1, 0);
        x.file(2, -1);
        Check.read(x, 0, "file 0; after 0 if kind == 1; after 1 if place == 1;");
        Check.due("server", Halls.log(x, 1), 2, 23, 54);
        Check.due("client behind it", Halls.log(x, 0), 1, 62, 83, 114);
        Check.due("behind its own kind, others than itself", Halls.log(x, 2), 1, 122, 143, 174);
        Check.due("waiting is no try", x.state(2, 11, 5), 0);
        x.cut(1, 6);
        Check.due("server cut while one would ask", Halls.log(x, 0), 1, 152, 173, 204);
        x.wake(0, 299);
        Check.due("waits to the end", Halls.log(x, 0), 1);
        Check.due("no end", x.ends(), -1);
        Check.read(x, 0, "file 0 if kind == 0; after 0 if 1 == 1;");
        x.wake(0, 0);
        Check.due("behind itself alone", x.state(1, 0, 0), 2);
        Check.read(x, 0, "file 0; after 3 if 1 == 1; after 2 if 1 == 1;");
        Check.due("behind kinds without machines", x.state(0, 0, 0), 2);
        Check.read(x, 0, "after 0 if 1 == 1;");
        Check.read(x, 1, "file 0;");
        Check.due("only the after rules of who answers", x.state(0, 0, 0), 2);
    }

    private static void giver() {
        BootHall x = new BootHall();
        for (int i = 0; i < 4; i++) {
            x.machine(i, 0, 0);
            x.file(2, -1);
        }
        Check.read(x, 0, "file 0 if kind == 0; file 1 if kind == 1; file 2 if kind == 2; file 3 if kind == 3;");
        Check.due("two a tick", x.sends(1), 2);
        Check.due("the lesser numbers", x.state(1, 1, 2), 1);
        Check.due("machine 2 gets none", x.state(2, 1, 2), 0);
        Check.due("which is a miss", x.state(2, 1, 7), 1);
        Check.due("and another", x.state(3, 2, 7), 2);
        Check.due("which a kept one wipes out", x.state(3, 3, 7), 0);
        x.width(1);
        Check.due("one a tick", x.sends(1), 1);
        Check.due("the last one's misses", x.state(3, 6, 7), 6);
        Check.due("its first block", x.state(3, 7, 2), 1);
        Check.due("all sent", x.count(6), 8);
        x.width(8);
        Check.due("as many as are wanted", x.sends(1), 4);
        Check.read(x, 0, "file 0;");
        x.width(1);
        Check.due("one sending for all", x.sends(1), 1);
        for (int i = 0; i < 4; i++) {
            Check.due("who gets it: " + i, x.state(i, 1, 2), 1);
        }
        Check.due("sent once", x.sent(0, 0), 1);
        Check.due("in all", x.count(6), 2);
        Check.due("no block of file 1", x.sent(1, 0), 0);
    }

    private static void giverOrder() {
        BootHall x = new BootHall();
        x.machine(0, 0, 0);
        x.machine(1, 0, 0);
        x.machine(2, 0, 0);
        x.file(3, -1);
        x.file(3, 0);
        x.file(3, -1);
        x.width(1);
        x.wake(0, 1);
        Check.read(x, 0, "file 0 if kind == 0; file 1 if kind == 1; file 2 if kind == 2;");
        // 1 and 2 are longer at it than 0; then 1 begins file 0 anew, behind 2 and 0.
        Check.due("1 goes first", x.state(1, 3, 1), 0);
        Check.due("1 at its second file", x.state(1, 3, 9), 2);
        Check.due("then 2", x.state(2, 6, 0), 3);
        Check.due("0 has none yet", x.state(0, 6, 2), 0);
        Check.due("0 missed 5", x.state(0, 6, 7), 5);
        Check.due("0 and 1 share", x.state(0, 7, 2) * 10 + x.state(1, 7, 2), 11);
        Check.due("sent(0, 0)", x.sent(0, 0), 1);
        Check.due("count(6)", x.count(6), 9);
        // A break: the power; 2 is the last in the line then.
        x.wake(0, 0);
        x.wake(1, 4);
        x.cut(2, 0);
        Check.due("2 begins at 3", x.state(2, 3, 0), 2);
        Check.due("0 is through", x.state(0, 3, 0), 3);
        Check.due("2 ahead of 1", x.state(2, 6, 0) * 10 + x.state(1, 6, 2), 30);
    }

    private static void lettersLost() {
        BootHall x = Halls.simple(2, 2);
        x.lose(0, 1);
        Check.due("lost: none kept", x.state(0, 1, 2), 0);
        Check.due("lost: a miss", x.state(0, 1, 7), 1);
        Check.due("the other gets it", x.state(1, 1, 2), 1);
        x.lose(1, 1);
        Check.due("sent for those who can't hear", x.sends(1), 1);
        Check.due("and again", x.sent(0, 0), 2);
        x.lose(0, 4);
        Check.due("nothing lost on who installs", x.state(0, 6, 0), 4);
    }

    private static void wrongBlocks() {
        BootHall x = Halls.simple(1, 2);
        x.lose(0, 1);
        x.spoil(0, 0, 2);
        Check.due("a wrong one leaves MISSES", x.state(0, 2, 7), 1);
        Check.due("and is not kept", x.state(0, 2, 2), 0);
        Check.due("BAD", x.state(0, 2, 6), 1);
        Check.due("a right one wipes MISSES", x.state(0, 3, 7), 0);
        Check.due("but not BAD", x.state(0, 3, 6), 1);
        x.spoil(0, 0, 4);
        Check.due("a block that is not sent", x.state(0, 4, 0), 3);
        x.spoil(0, 1, 4);
        x.spoil(0, 1, 5);
        Check.due("three bad", x.state(0, 6, 0), 3);
        x.spoil(0, 1, 6);
        Check.due("four bad", Halls.all(x, 0, 6), 5, -1, -1, -1, 3, 0, 4, 0, 1, 0);
        x.lose(0, 4);
        Check.due("lost ones are no wrong ones", x.state(0, 6, 6), 3);
        Check.due("so it goes on", x.state(0, 7, 0), 3);
        Check.due("log", Halls.log(x, 0), 2, 73, 104);
    }

    private static void lateTold() {
        BootHall x = new BootHall();
        for (int i = 0; i < 6; i++) {
            x.file(12, -1);
        }
        x.machine(0, 0, 0);
        Check.read(x, 0, "file 5;");
        Check.due("up", x.ends(), 25);
        x.spoil(2, 11, 12);
        Check.due("another file's block", x.ends(), 25);
        x.spoil(5, 11, 12);
        Check.due("its own", x.ends(), 26);
        x.spoil(5, 0, 1);
        Check.due("its first too, which shifts it past the other", x.ends(), 26);
        x.down(0, 0, 1);
        Check.due("a keeper down", x.ends(), 27);
        x.down(0, 2, 3);
        Check.due("and again", x.ends(), 31);
        x.machine(1, 0, 0);
        Check.due("a machine more", x.up(), 3);
        x.wake(1, 50);
        Check.due("which wakes late", x.ends(), 75);
        Check.due("both", x.up(), 3);
    }

    private static void misses() {
        BootHall x = Halls.simple(1, 2);
        for (int t = 2; t < 13; t++) {
            x.lose(0, t);
        }
        Check.due("eleven", x.state(0, 12, 7), 11);
        Check.due("goes on", x.state(0, 13, 0), 3);
        x.lose(0, 13);
        Check.due("twelve", Halls.all(x, 0, 13), 5, -1, -1, -1, 4, 0, 0, 12, 1, 0);
        Check.due("stays", x.state(0, 299, 4), 4);
        Check.due("ends", x.ends(), 13);
        x.cut(0, 20);
        Check.due("cut out of rescue", Halls.all(x, 0, 20), 0, -1, -1, -1, 0, 0, 0, 0, 1, 0);
        Check.due("and up", x.up(), 1);
        Check.due("log", Halls.log(x, 0), 2, 135, 200, 232, 253, 284);
    }

    private static void chains() {
        BootHall x = new BootHall();
        x.machine(0, 0, 0);
        x.file(1, 1);
        x.file(2, 2);
        x.file(3, -1);
        Check.read(x, 0, "file 0;");
        Check.due("chain 1", Halls.all(x, 0, 0), 2, 0, 0, -1, 0, 0, 0, 0, 1, 1);
        Check.due("chain 2", Halls.all(x, 0, 1), 2, 1, 0, -1, 0, 0, 0, 0, 1, 2);
        Check.due("chain 3", Halls.all(x, 0, 3), 2, 2, 0, -1, 0, 0, 0, 0, 1, 3);
        Check.due("installs", Halls.all(x, 0, 6), 3, 2, 0, -1, 0, 0, 0, 0, 1, 3);
        Check.due("writes", Halls.all(x, 0, 7), 3, 2, 1, -1, 0, 0, 0, 0, 1, 3);
        Check.due("all written", Halls.all(x, 0, 9), 3, 2, 3, -1, 0, 0, 0, 0, 1, 3);
        Check.due("up", Halls.all(x, 0, 10), 4, -1, -1, 2, 0, 0, 0, 0, 1, 0);
        Check.due("log", Halls.log(x, 0), 2, 63, 104);
        x.file(1, 0);
        Check.read(x, 0, "file 3;");
        Check.due("three are well", Halls.all(x, 0, 3), 2, 1, 1, -1, 0, 0, 0, 0, 1, 3);
        Check.due("a fourth is not", Halls.all(x, 0, 4), 5, -1, -1, -1, 5, 0, 0, 0, 1, 0);
        x.file(1, 5);
        Check.read(x, 0, "file 4;");
        Check.due("no such file", x.state(0, 1, 4), 5);
        x.file(1, -1);
        Check.due("now there is", x.state(0, 1, 1), 5);
        Check.due("up with it", x.state(0, 4, 3), 5);
    }

    private static void cuts() {
        BootHall x = Halls.simple(1, 3);
        x.file(2, -1);
        Check.read(x, 0, "file 0 if begun < 2; file 1 if 2 <= begun;");
        Check.due("plain", Halls.log(x, 0), 2, 33, 74);
        x.cut(0, 6);
        Check.due("cut while it writes", Halls.all(x, 0, 6), 0, -1, -1, -1, 0, 0, 0, 0, 1, 0);
        Check.due("off for three", x.state(0, 8, 0), 0);
        Check.due("begins", Halls.all(x, 0, 9), 2, 1, 0, -1, 0, 0, 0, 0, 2, 1);
        Check.due("log", Halls.log(x, 0), 2, 33, 60, 92, 113, 144);
        x.cut(0, 8);
        Check.due("cut while off", x.state(0, 10, 0), 0);
        Check.due("begins three behind", x.state(0, 11, 8), 2);
        x.cut(0, 20);
        Check.due("the disk stays", x.state(0, 20, 3), 1);
        Check.read(x, 0, "file 1 if begun < 3; file 0 if 3 <= begun;");
        Check.due("the old image stays while the new is written", Halls.all(x, 0, 29), 3, 0, 3, 1, 0, 0, 0, 0, 3, 1);
        Check.due("and is replaced when it is whole", x.state(0, 30, 3), 0);
        x.cut(0, 30);
        Check.due("cut in the tick in which it would be whole", x.state(0, 299, 3), 0);
        Check.due("not before", x.state(0, 30, 3), 1);
        BootHall y = Halls.simple(1, 1);
        y.cut(0, 0);
        y.wake(0, 1);
        Check.due("cut ahead of the wake", Halls.log(y, 0), 32, 43, 64);
        y.wake(0, 5);
        Check.due("wake behind it", Halls.log(y, 0), 52, 63, 84);
        Check.due("begun once", y.state(0, 299, 8), 1);
        y.lose(0, 5);
        y.lose(0, 8);
        y.cut(0, 9);
        Check.due("TRIES", y.state(0, 6, 5), 1);
        Check.due("MISSES", y.state(0, 8, 7), 1);
        Check.due("gone", y.state(0, 9, 5) + y.state(0, 9, 7), 0);
        for (int t = 16; t < 300; t += 4) {
            y.cut(0, t);
        }
        Check.due("begun often", y.state(0, 299, 8), 73);
    }

    private static void ends() {
        BootHall x = Halls.simple(2, 1);
        Check.due("ends", x.ends(), 3);
        Check.due("up", x.up(), 3);
        x.cut(1, 290);
        Check.due("ends late", x.ends(), 296);
        x.cut(1, 293);
        Check.due("later", x.ends(), 299);
        x.cut(1, 294);
        Check.due("never", x.ends(), -1);
        Check.due("up but one", x.up(), 1);
        Check.due("log", Halls.log(x, 1), 2, 13, 34, 2900, 2972, 2983);
        x.cut(0, 299);
        Check.due("up none", x.up(), 0);
        Check.due("log's last", Halls.log(x, 0), 2, 13, 34, 2990);
    }

    private static void wakes() {
        BootHall x = Halls.simple(2, 1);
        x.wake(0, 299);
        Check.due("wakes late", Halls.log(x, 0), 2992);
        Check.due("off ahead", Halls.all(x, 0, 298), 0, -1, -1, -1, 0, 0, 0, 0, 0, 0);
        x.wake(0, 296);
        Check.due("just in time", x.ends(), 299);
        x.wake(0, 297);
        Check.due("just not", x.ends(), -1);
        x.wake(1, 0);
        Check.due("another kind's wake", x.state(0, 0, 0), 0);
    }
}
