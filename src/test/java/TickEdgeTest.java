/** Promises 14 to 20 and part III at their limits: TRIES, BAD, MISSES, CHAIN, power that is cut, THE GIVER's line, the last tick. */
final class TickEdgeTest {
    private static final int ASKS = 1;
    private static final int FETCHES = 2;
    private static final int INSTALLS = 3;
    private static final int UP = 4;
    private static final int RESCUE = 5;

    public static void main(String[] args) {
        answerTakes();
        answerRefuses();
        stateTakes();
        stateRefuses();
        sendsTakes();
        sendsRefuses();
        sentTakes();
        sentRefuses();
        logTakes();
        logRefuses();
        endsAtTheLimits();
        upBits();
        noSuchFileIsAClash();
        notAllTheSame();
        asksTwoToTheTriesLater();
        rescueAtFiveTries();
        reasonOfTheFifth();
        keepersInTurn();
        lostIsNoAnswer();
        behindIsNoTry();
        behindAllOfAKind();
        behindWhicheverRule();
        behindOthersThanItself();
        behindNobody();
        upInTheTickAhead();
        rescueAtFourBad();
        badOverBlocksAndFiles();
        rescueAtTwelveMisses();
        missesOfBothSorts();
        wrongIsNoMiss();
        missesOverFiles();
        chainOfThree();
        chainOfFour();
        chainOfItself();
        chainToNoFile();
        offForThree();
        cutAgain();
        cutInTheLastTicks();
        cutInEachState();
        cutAheadOfTheWake();
        wholeOrNotAtAll();
        longestAhead();
        lesserNumber();
        newFileIsNewInLine();
        itselfIsNewInLine();
        cutIsABreak();
        missIsNoBreak();
        widthIsOfUnlikeOnes();
        oneSendingForAll();
        installs();
        stays();
        nothingOfAnEarlierAnswer();
        calls512();
        Check.finish();
    }

    private static BootHall hall(int machines, String text) {
        BootHall x = new BootHall();
        for (int i = 0; i < machines; i++) {
            x.machine(0, i, 0);
        }
        Check.due("read of " + text, Check.read(x, 0, text), 0);
        return x;
    }

    private static void lose(BootHall x, int machine, int from, int to) {
        for (int tick = from; tick <= to; tick++) {
            x.lose(machine, tick);
        }
    }

    private static void spoil(BootHall x, int file, int block, int from, int to) {
        for (int tick = from; tick <= to; tick++) {
            x.spoil(file, block, tick);
        }
    }

    // ---- promises 14 to 20

    private static void answerTakes() {
        BootHall x = new BootHall();
        Halls.full(x);
        int[] files = {5, 4, 3, 2};
        for (int machine = 0; machine < 8; machine++) {
            Check.due("answer(0, " + machine + ", 0)", x.answer(0, machine, 0), files[machine % 4]);
            Check.due("answer(0, " + machine + ", 299)", x.answer(0, machine, 299), files[machine % 4]);
            Check.due("answer(1, " + machine + ", 299)", x.answer(1, machine, 299), -1);
        }
    }

    // "NONE: nothing, no such ones"
    private static void answerRefuses() {
        for (int bad : Same.outside(0, 1)) {
            Same.behindRefused("answer(" + bad + ", 0, 0)", -1, Halls::busy, x -> x.answer(bad, 0, 0));
        }
        for (int bad : Same.outside(0, 2)) {
            Same.behindRefused("answer(0, " + bad + ", 0)", -1, Halls::busy, x -> x.answer(0, bad, 0));
        }
        for (int bad : Same.outside(0, 299)) {
            Same.behindRefused("answer(0, 0, " + bad + ")", -1, Halls::busy, x -> x.answer(0, 0, bad));
        }
        Check.due("answer of a new hall", new BootHall().answer(0, 0, 0), -1);
    }

    private static void stateTakes() {
        BootHall x = Halls.simple(8, 1);
        Check.due("first machine, first tick", Halls.all(x, 0, 0), 2, 0, 0, -1, 0, 0, 0, 0, 1, 1);
        Check.due("last machine, last tick", Halls.all(x, 7, 299), 4, -1, -1, 0, 0, 0, 0, 0, 1, 0);
    }

    // "-1000000: no such ones"
    private static void stateRefuses() {
        for (int bad : Same.outside(0, 2)) {
            Same.behindRefused("state(" + bad + ", 0, 0)", -1000000, Halls::busy, x -> x.state(bad, 0, 0));
        }
        for (int bad : Same.outside(0, 299)) {
            Same.behindRefused("state(0, " + bad + ", 0)", -1000000, Halls::busy, x -> x.state(0, bad, 0));
        }
        for (int bad : Same.outside(0, 9)) {
            Same.behindRefused("state(0, 0, " + bad + ")", -1000000, Halls::busy, x -> x.state(0, 0, bad));
        }
        Check.due("state of a new hall", new BootHall().state(0, 0, 0), -1000000);
    }

    private static void sendsTakes() {
        BootHall x = Halls.simple(1, 1);
        Check.due("sends(0)", x.sends(0), 0);
        Check.due("sends(1)", x.sends(1), 1);
        x.wake(0, 298);
        Check.due("sends(1) then", x.sends(1), 0);
        Check.due("sends(298)", x.sends(298), 0);
        Check.due("sends(299)", x.sends(299), 1);
        x.wake(0, 299);
        Check.due("sends(299) of who asks then", x.sends(299), 0);
        Check.due("none in all", x.count(6), 0);
    }

    // "NONE: no such TICK"
    private static void sendsRefuses() {
        for (int bad : Same.outside(0, 299)) {
            Same.behindRefused("sends(" + bad + ")", -1, Halls::busy, x -> x.sends(bad));
        }
        Check.due("sends of a new hall", new BootHall().sends(299), 0);
    }

    // "How often a block of a FILE is sent in TICKS 0 .. 299"
    private static void sentTakes() {
        BootHall x = hall(1, "file 5;");
        for (int i = 0; i < 6; i++) {
            x.file(12, -1);
        }
        for (int block = 0; block < 12; block++) {
            Check.due("sent(5, " + block + ")", x.sent(5, block), 1);
            Check.due("sent(0, " + block + ")", x.sent(0, block), 0);
        }
        x.wake(0, 287);
        Check.due("the 11th block in tick 298", x.sent(5, 10), 1);
        Check.due("the last one in tick 299", x.sent(5, 11), 1);
        x.wake(0, 288);
        Check.due("the 11th block in tick 299", x.sent(5, 10), 1);
        Check.due("no tick for the last one", x.sent(5, 11), 0);
    }

    // "NONE: no such ones"; each FILE has its own BLOCKS: 2, 3 and 1 here
    private static void sentRefuses() {
        for (int bad : Same.outside(0, 2)) {
            Same.behindRefused("sent(" + bad + ", 0)", -1, Halls::busy, x -> x.sent(bad, 0));
        }
        int[] blocks = {2, 3, 1};
        for (int file = 0; file < 3; file++) {
            int f = file;
            for (int bad : Same.outside(0, blocks[f] - 1)) {
                Same.behindRefused("sent(" + f + ", " + bad + ")", -1, Halls::busy, x -> x.sent(f, bad));
            }
        }
        Check.due("sent of a new hall", new BootHall().sent(0, 0), -1);
    }

    // "OFF at first is none"; "what it is then (at a TICK's end)"
    private static void logTakes() {
        BootHall x = Halls.simple(8, 1);
        Check.due("ASKS within a tick is none", x.log(7, 0), 2);
        Check.due("the last", x.log(7, 2), 34);
        Check.due("not so many", x.log(7, 3), -1);
        x.cut(7, 299);
        Check.due("one in the last tick", x.log(7, 3), 2990);
        Check.due("not so many then", x.log(7, 4), -1);
        x.wake(0, 299);
        Check.due("OFF all the time", Halls.log(x, 7));
        Check.due("awake in the last tick", Halls.log(x, 6), 2992);
        BootHall y = Halls.simple(1, 1);
        // as many changes as there can be: off, fetching, and off again
        y.cut(0, 0);
        for (int tick = 4; tick < 300; tick += 4) {
            y.cut(0, tick);
        }
        Check.due("first", y.log(0, 0), 32);
        Check.due("second", y.log(0, 1), 40);
        Check.due("148th", y.log(0, 147), 2960);
        Check.due("149th", y.log(0, 148), 2992);
        Check.due("no 150th", y.log(0, 149), -1);
        Check.due("BEGUN", y.state(0, 299, 8), 75);
    }

    // "NONE: not so many, no such one"
    private static void logRefuses() {
        for (int bad : Same.outside(0, 2)) {
            Same.behindRefused("log(" + bad + ", 0)", -1, Halls::busy, x -> x.log(bad, 0));
        }
        BootHall busy = new BootHall();
        Halls.busy(busy);
        int changes = Halls.log(busy, 0).length;
        for (int bad : Same.outside(0, changes - 1)) {
            Same.behindRefused("log(0, " + bad + ")", -1, Halls::busy, x -> x.log(0, bad));
        }
        Check.due("log of a new hall", new BootHall().log(0, 0), -1);
    }

    // "The first TICK at whose end each MACHINE is UP or in RESCUE, and stays so to TICK 299; NONE: there is none, or no MACHINE"
    private static void endsAtTheLimits() {
        BootHall x = new BootHall();
        Check.due("no machine", x.ends(), -1);
        x.file(1, 5);
        Check.read(x, 0, "file 0;");
        Check.due("still no machine", x.ends(), -1);
        x.machine(0, 0, 0);
        Check.due("as soon as can be: in rescue", x.ends(), 1);
        x.machine(1, 0, 0);
        x.wake(1, 298);
        Check.due("in the last tick", x.ends(), 299);
        x.wake(1, 299);
        Check.due("not in the last tick", x.ends(), -1);
        x.wake(1, 0);
        x.cut(0, 294);
        Check.due("all were, and one is not", x.ends(), 298);
        x.cut(0, 295);
        Check.due("and ends in the last tick", x.ends(), 299);
        x.cut(0, 296);
        Check.due("and never", x.ends(), -1);
        BootHall y = Halls.simple(1, 1);
        y.cut(0, 299);
        Check.due("cut in the last tick", y.ends(), -1);
    }

    // "MACHINES that are UP at the end of TICK 299 (bits)"
    private static void upBits() {
        Check.due("no machine", new BootHall().up(), 0);
        BootHall x = Halls.simple(8, 1);
        Check.due("all eight", x.up(), 255);
        x.cut(7, 292);
        Check.due("up in tick 298", x.state(7, 298, 0), UP);
        Check.due("all eight then", x.up(), 255);
        x.cut(7, 293);
        Check.due("up in tick 299", x.up(), 255);
        x.cut(7, 294);
        Check.due("installs in tick 299", x.up(), 127);
        x.cut(0, 299);
        Check.due("off in tick 299", x.up(), 126);
        BootHall y = hall(2, "file 0 if place == 1;");
        y.file(1, -1);
        Check.due("RESCUE is not UP", y.up(), 2);
    }

    // ---- ANSWER

    // "or no such FILE is there, a CLASH": the last FILE that is there, the first that is not
    private static void noSuchFileIsAClash() {
        for (int file = 0; file < 6; file++) {
            BootHall x = hall(1, "file " + file + ";");
            for (int there = 0; there <= 6; there++) {
                Check.due("file " + file + " of " + there, x.answer(0, 0, 0), file < there ? file : -2);
                x.file(1, -1);
            }
        }
        BootHall y = hall(1, "file 5; file 5;");
        Check.due("the same one twice, not there", y.answer(0, 0, 0), -2);
    }

    // "if there is none, nothing; if they are not all the same .. a CLASH"
    private static void notAllTheSame() {
        BootHall x = hall(1, "");
        x.file(1, -1);
        x.file(1, -1);
        Check.due("none", x.answer(0, 0, 0), -1);
        Check.read(x, 0, "file 0 if kind == 1; after 0 if 1 == 1;");
        Check.due("none that holds", x.answer(0, 0, 0), -1);
        Check.read(x, 0, "file 0;".repeat(20));
        Check.due("twenty of the same", x.answer(0, 0, 0), 0);
        Check.read(x, 0, "file 0;".repeat(19) + "file 1;");
        Check.due("the last is not", x.answer(0, 0, 0), -2);
        Check.read(x, 0, "file 1;" + "file 0;".repeat(19));
        Check.due("the first is not", x.answer(0, 0, 0), -2);
        Check.read(x, 0, "file 0; file 1 if kind == 1; file 0;");
        Check.due("one that does not hold is none of them", x.answer(0, 0, 0), 0);
        Check.read(x, 0, "file 0; file 5;");
        Check.due("one that is not there and one that is", x.answer(0, 0, 0), -2);
        Check.read(x, 0, "file 0; after 1 if 1 == 1;");
        Check.due("after's number is no FILE", x.answer(0, 0, 0), 0);
    }

    // ---- (2) ASK

    // "else it asks again 2 to the TRIES TICKS later": in ticks 0, 2, 6, 14 and 30
    private static void asksTwoToTheTriesLater() {
        for (int tick = 0; tick <= 40; tick++) {
            BootHall x = hall(1, "file 0 if tick == " + tick + ";");
            x.file(1, -1);
            boolean asks = tick == 0 || tick == 2 || tick == 6 || tick == 14 || tick == 30;
            Check.due("an answer in tick " + tick + " alone", x.up(), asks ? 1 : 0);
            Check.due("ends", x.ends(), asks ? tick + 3 : 30);
        }
        BootHall y = hall(1, "");
        int[] tries = {1, 1, 2, 2, 2, 2, 3, 3, 3, 3, 3, 3, 3, 3, 4, 4, 4, 4, 4, 4, 4, 4, 4, 4, 4, 4, 4, 4, 4, 4, 5, 5};
        for (int tick = 0; tick < tries.length; tick++) {
            Check.due("TRIES in tick " + tick, y.state(0, tick, 5), tries[tick]);
            Check.due("state in tick " + tick, y.state(0, tick, 0), tick < 30 ? ASKS : RESCUE);
        }
        Check.due("TRIES to the end", y.state(0, 299, 5), 5);
    }

    // "TRIES is one more; at 5 it is in RESCUE": four do not
    private static void rescueAtFiveTries() {
        BootHall x = hall(1, "file 0 if tries == 4;");
        x.file(1, -1);
        Check.due("four, then an answer", Halls.log(x, 0), 1, 302, 313, 334);
        Check.due("TRIES stay", x.state(0, 299, 5), 4);
        x.down(0, 30, 31);
        Check.due("a fifth", Halls.log(x, 0), 1, 305);
        Check.due("all of it", Halls.all(x, 0, 30), RESCUE, -1, -1, -1, 1, 5, 0, 0, 1, 0);
        x.cut(0, 29);
        Check.due("a cut ahead of the fifth", x.state(0, 29, 5), 0);
        Check.due("begins with none", x.state(0, 32, 5), 1);
        Check.due("and has five again", Halls.log(x, 0), 1, 290, 321, 622, 633, 654);
    }

    // "(reason 2: a CLASH now; 1: no answer)": of the fifth alone
    private static void reasonOfTheFifth() {
        BootHall x = hall(1, "file 0 if tick == 30; file 1 if tick == 30;");
        Check.due("four without, then a clash", x.state(0, 30, 4), 2);
        Check.due("none ahead of it", x.state(0, 29, 4), 0);
        Check.read(x, 0, "file 0 if tick < 30; file 1 if tick < 30;");
        Check.due("four clashes, then none", x.state(0, 30, 4), 1);
        Check.read(x, 0, "file 0; file 1;");
        Check.due("five clashes", x.state(0, 30, 4), 2);
        x.lose(0, 30);
        Check.due("a clash that is lost", x.state(0, 30, 4), 1);
        BootHall y = hall(1, "file 0;");
        Check.due("no such file", y.state(0, 30, 4), 2);
        y.down(0, 30, 31);
        Check.due("a clash of who is down", y.state(0, 30, 4), 1);
        Check.read(y, 1, "file 3;");
        Check.due("the other's clash", y.state(0, 30, 4), 2);
        y.down(1, 30, 31);
        Check.due("both down", y.state(0, 30, 4), 1);
        Check.due("to the end", y.state(0, 299, 4), 1);
    }

    // "KEEPER 0's answer counts, if it is not DOWN and its ANSWER is not nothing; else KEEPER 1's likewise"
    private static void keepersInTurn() {
        // FILE 0, nothing, CLASH, DOWN for KEEPER 0; FILE 1, nothing, CLASH, DOWN for KEEPER 1
        String[] texts0 = {"file 0;", "", "file 0; file 1;", "file 0;"};
        String[] texts1 = {"file 1;", "", "file 0; file 1;", "file 1;"};
        int[][] file = {{0, 0, 0, 0}, {1, -1, -2, -1}, {-2, -2, -2, -2}, {1, -1, -2, -1}};
        for (int a = 0; a < 4; a++) {
            for (int b = 0; b < 4; b++) {
                BootHall x = hall(1, texts0[a]);
                x.file(1, -1);
                x.file(1, -1);
                Check.read(x, 1, texts1[b]);
                if (a == 3) {
                    x.down(0, 0, 300);
                }
                if (b == 3) {
                    x.down(1, 0, 300);
                }
                String both = "KEEPER 0 " + a + ", KEEPER 1 " + b;
                Check.due(both, x.state(0, 0, 1), Math.max(-1, file[a][b]));
                Check.due(both + ": TRIES", x.state(0, 0, 5), file[a][b] < 0 ? 1 : 0);
                Check.due(both + ": reason", x.state(0, 30, 4), file[a][b] >= 0 ? 0 : file[a][b] == -2 ? 2 : 1);
            }
        }
    }

    // "none, if letters are LOST"
    private static void lostIsNoAnswer() {
        BootHall x = Halls.simple(1, 1);
        Check.read(x, 1, "file 0;");
        x.lose(0, 0);
        x.lose(0, 2);
        x.lose(0, 6);
        x.lose(0, 14);
        Check.due("four lost", Halls.log(x, 0), 1, 302, 313, 334);
        x.lose(0, 30);
        Check.due("five lost", Halls.all(x, 0, 30), RESCUE, -1, -1, -1, 1, 5, 0, 0, 1, 0);
    }

    // "if some MACHINE of a KIND that it is behind is not UP .. it asks again in the next TICK": without a TRY
    private static void behindIsNoTry() {
        BootHall x = new BootHall();
        x.machine(0, 0, 0);
        x.machine(1, 0, 0);
        x.file(1, -1);
        x.wake(1, 290);
        Check.read(x, 0, "file 0; after 1 if kind == 0;");
        Check.due("asks for long", x.state(0, 293, 0), ASKS);
        Check.due("no TRIES", x.state(0, 293, 5), 0);
        Check.due("then", x.state(0, 294, 0), FETCHES);
        // one TRY, waiting, then one more: it is the second
        BootHall y = new BootHall();
        y.machine(0, 0, 0);
        y.machine(1, 0, 0);
        y.file(1, -1);
        y.wake(1, 20);
        y.lose(0, 0);
        y.lose(0, 5);
        Check.read(y, 0, "file 0; after 1 if kind == 0;");
        Check.due("TRIES in tick 4", y.state(0, 4, 5), 1);
        Check.due("TRIES in tick 5", y.state(0, 5, 5), 2);
        y.lose(0, 6);
        y.lose(0, 8);
        Check.due("no question in ticks 6 to 8", y.state(0, 8, 5), 2);
        y.lose(0, 9);
        Check.due("one in tick 9", y.state(0, 9, 5), 3);
        Check.due("TRIES stay when it waits", y.state(0, 23, 5), 3);
        Check.due("and when it fetches", y.state(0, 24, 5) * 10 + y.state(0, 24, 0), 32);
    }

    // "some MACHINE of a KIND that it is behind"; "behind all KINDS of its after RULES that hold"
    private static void behindAllOfAKind() {
        BootHall x = new BootHall();
        x.machine(0, 0, 0);
        for (int i = 1; i < 8; i++) {
            x.machine(i < 3 ? 1 : i < 5 ? 2 : 3, i, 0);
        }
        x.file(1, -1);
        x.wake(1, 10);
        x.wake(2, 20);
        x.wake(3, 30);
        String all = "file 0; after 1 if kind == 0; after 2 if kind == 0; after 3 if kind == 0 and mark == 1;";
        Check.read(x, 0, all);
        Check.due("behind the last of two kinds", x.log(0, 1), 242);
        x.lose(4, 21);
        Check.due("one of them is late", x.log(0, 1), 252);
        Check.read(x, 0, all.replace("mark == 1", "mark == 0"));
        Check.due("behind three kinds", x.log(0, 1), 342);
        Check.read(x, 0, "file 0 if place != 2; after 1 if kind == 0;");
        Check.due("one of them in rescue", x.state(2, 299, 0), RESCUE);
        Check.due("never, though the other is up", Halls.log(x, 0), 1);
        x.cut(2, 50);
        Check.due("nor behind a second rescue", Halls.log(x, 0), 1);
        Check.read(x, 0, "file 0 if place != 2 or begun == 2; after 1 if kind == 0;");
        Check.due("up by its second beginning", x.log(0, 1), 572);
    }

    /** Whichever RULE comes first, whichever FILE it is, whichever KIND is the last to be UP. */
    private static void behindWhicheverRule() {
        String[] texts = {"file %d; after 1 if kind == 0; after 2 if kind == 0;", "after 2 if kind == 0; after 1 if kind == 0; file %d;",
            "after 1 if kind == 0; file %d; after 2 if kind == 0;", "after 2 if kind == 0; file %d; after 1 if kind == 0;"};
        for (String text : texts) {
            for (int file = 0; file < 6; file++) {
                for (int last = 1; last <= 2; last++) {
                    BootHall x = new BootHall();
                    x.machine(0, 0, 0);
                    x.machine(1, 0, 0);
                    x.machine(2, 0, 0);
                    for (int i = 0; i < 6; i++) {
                        x.file(1, -1);
                    }
                    x.wake(last, 9);
                    Check.read(x, 0, text.formatted(file));
                    Check.due(text + " of " + file + ", kind " + last + " late", Halls.log(x, 0), 1, 132, 143, 164);
                    Check.due("its image", x.state(0, 16, 3), file);
                }
            }
        }
    }

    // "(others than itself)"
    private static void behindOthersThanItself() {
        BootHall x = hall(1, "file 0; after 0 if 1 == 1;");
        x.file(1, -1);
        Check.due("alone", Halls.log(x, 0), 2, 13, 34);
        x.machine(0, 1, 0);
        Check.due("each behind the other", Halls.log(x, 0), 1);
        Check.due("for ever", Halls.log(x, 1), 1);
        Check.read(x, 0, "file 0; after 0 if place == 1;");
        Check.due("one behind the other", Halls.log(x, 1), 1, 42, 53, 74);
    }

    private static void behindNobody() {
        BootHall x = hall(1, "file 0; after 1 if 1 == 1; after 2 if 1 == 1; after 3 if 1 == 1;");
        x.file(1, -1);
        Check.due("kinds without machines", x.state(0, 0, 0), FETCHES);
        Check.read(x, 0, "after 0 if 1 == 1;");
        x.machine(0, 0, 0);
        Check.read(x, 1, "file 0;");
        Check.due("KEEPER 1's FILE is behind KEEPER 1's KINDS alone", x.state(0, 0, 0), FETCHES);
    }

    // step (2) comes ahead of step (4), and behind step (1)
    private static void upInTheTickAhead() {
        BootHall x = new BootHall();
        x.machine(0, 0, 0);
        x.machine(1, 0, 0);
        x.file(1, -1);
        Check.read(x, 0, "file 0; after 1 if kind == 0;");
        Check.due("1 is up in tick 3", x.log(1, 2), 34);
        Check.due("0 asks in vain in tick 3", x.state(0, 3, 0), ASKS);
        Check.due("and not in tick 4", x.state(0, 4, 0), FETCHES);
        x.cut(1, 4);
        Check.due("unless 1 is cut in that tick", x.state(0, 4, 0), ASKS);
        Check.due("and up again in tick 10", x.log(0, 1), 112);
        x.cut(1, 12);
        Check.due("who fetches waits no more", x.state(0, 14, 0), UP);
    }

    // ---- (3) FETCH

    // "else BAD is one more, at 4 RESCUE (reason 3)": at 3 it goes on
    private static void rescueAtFourBad() {
        BootHall x = Halls.simple(1, 2);
        spoil(x, 0, 0, 1, 3);
        Check.due("three", Halls.all(x, 0, 3), FETCHES, 0, 0, -1, 0, 0, 3, 0, 1, 1);
        Check.due("then a good one", Halls.log(x, 0), 2, 53, 84);
        Check.due("BAD stays", x.state(0, 299, 6), 3);
        x.spoil(0, 0, 4);
        Check.due("four", Halls.all(x, 0, 4), RESCUE, -1, -1, -1, 3, 0, 4, 0, 1, 0);
        Check.due("to the end", Halls.all(x, 0, 299), RESCUE, -1, -1, -1, 3, 0, 4, 0, 1, 0);
        Check.due("no sending more", x.count(6), 4);
        x.cut(0, 3);
        Check.due("cut with two", Halls.all(x, 0, 3), 0, -1, -1, -1, 0, 0, 0, 0, 1, 0);
        spoil(x, 0, 0, 7, 9);
        Check.due("three more are but three", x.state(0, 10, 2), 1);
    }

    /** No kept block and no new FILE makes BAD less. */
    private static void badOverBlocksAndFiles() {
        BootHall x = hall(1, "file 0;");
        x.file(2, 1);
        x.file(2, -1);
        x.spoil(0, 0, 1);
        x.spoil(0, 1, 3);
        x.spoil(1, 0, 5);
        Check.due("three", Halls.all(x, 0, 5), FETCHES, 1, 0, -1, 0, 0, 3, 0, 1, 2);
        Check.due("up", x.ends(), 10);
        x.spoil(1, 1, 7);
        Check.due("four", Halls.all(x, 0, 7), RESCUE, -1, -1, -1, 3, 0, 4, 0, 1, 0);
    }

    // "MISSES is one more, at 12 RESCUE (reason 4)": at 11 it goes on
    private static void rescueAtTwelveMisses() {
        BootHall x = Halls.simple(1, 2);
        lose(x, 0, 1, 11);
        Check.due("eleven", Halls.all(x, 0, 11), FETCHES, 0, 0, -1, 0, 0, 0, 11, 1, 1);
        Check.due("a kept one wipes them out", Halls.all(x, 0, 12), FETCHES, 0, 1, -1, 0, 0, 0, 0, 1, 1);
        lose(x, 0, 13, 23);
        Check.due("eleven again", x.state(0, 23, 7), 11);
        Check.due("up", x.ends(), 27);
        x.lose(0, 24);
        Check.due("a twelfth", Halls.all(x, 0, 24), RESCUE, -1, -1, -1, 4, 0, 0, 12, 1, 0);
        x.lose(0, 12);
        Check.due("a twelfth at once", Halls.all(x, 0, 12), RESCUE, -1, -1, -1, 4, 0, 0, 12, 1, 0);
        Check.due("to the end", x.state(0, 299, 7), 12);
        x.cut(0, 12);
        Check.due("cut in that tick", Halls.all(x, 0, 12), 0, -1, -1, -1, 0, 0, 0, 0, 1, 0);
    }

    /** Of a WIDTH that is too small, and of LOST letters. */
    private static void missesOfBothSorts() {
        BootHall x = hall(2, "file 0 if place == 0; file 1 if place == 1;");
        x.file(11, -1);
        x.file(1, -1);
        x.width(1);
        Check.due("eleven of width", x.state(1, 11, 7), 11);
        Check.due("then its block", x.state(1, 12, 0), INSTALLS);
        x.lose(1, 12);
        Check.due("the twelfth of lost letters", Halls.all(x, 1, 12), RESCUE, -1, -1, -1, 4, 0, 0, 12, 1, 0);
        BootHall y = hall(2, "file 0 if place == 0; file 1 if place == 1;");
        y.file(12, -1);
        y.file(1, -1);
        y.width(1);
        Check.due("twelve of width", Halls.all(y, 1, 12), RESCUE, -1, -1, -1, 4, 0, 0, 12, 1, 0);
        y.width(2);
        Check.due("none of a greater one", y.state(1, 1, 0), INSTALLS);
    }

    /** Who gets a WRONG one gets one: MISSES stays as it is. */
    private static void wrongIsNoMiss() {
        BootHall x = Halls.simple(1, 1);
        lose(x, 0, 1, 11);
        spoil(x, 0, 0, 12, 14);
        Check.due("eleven missed, three wrong", Halls.all(x, 0, 14), FETCHES, 0, 0, -1, 0, 0, 3, 11, 1, 1);
        Check.due("then a good one", x.state(0, 15, 0), INSTALLS);
        x.lose(0, 15);
        Check.due("a twelfth", x.state(0, 15, 4), 4);
        BootHall y = Halls.simple(1, 1);
        y.spoil(0, 0, 1);
        y.lose(0, 1);
        Check.due("a WRONG one that is LOST is a miss", Halls.all(y, 0, 1), FETCHES, 0, 0, -1, 0, 0, 0, 1, 1, 1);
    }

    /** MISSES are of one FILE and the next alike, but a kept block is between. */
    private static void missesOverFiles() {
        BootHall x = hall(1, "file 0;");
        x.file(1, 1);
        x.file(1, -1);
        lose(x, 0, 1, 11);
        lose(x, 0, 13, 23);
        Check.due("eleven", x.state(0, 11, 7), 11);
        Check.due("a new FILE", Halls.all(x, 0, 12), FETCHES, 1, 0, -1, 0, 0, 0, 0, 1, 2);
        Check.due("eleven of it", x.state(0, 23, 7), 11);
        Check.due("kept", Halls.all(x, 0, 24), INSTALLS, 1, 0, -1, 0, 0, 0, 0, 1, 2);
    }

    // "its CHAIN is one more; if that is 4 .. RESCUE (reason 5)": 3 is well
    private static void chainOfThree() {
        BootHall x = hall(1, "file 0;");
        x.file(1, 1);
        x.file(1, 2);
        x.file(1, -1);
        int[] chains = {1, 2, 3, 3, 3, 0};
        int[] states = {FETCHES, FETCHES, FETCHES, INSTALLS, INSTALLS, UP};
        for (int tick = 0; tick < chains.length; tick++) {
            Check.due("CHAIN in tick " + tick, x.state(0, tick, 9), chains[tick]);
            Check.due("state in tick " + tick, x.state(0, tick, 0), states[tick]);
        }
        x.cut(0, 4);
        Check.due("CHAIN of one that is OFF", x.state(0, 4, 9), 0);
        Check.due("CHAIN begins with 1", x.state(0, 7, 9), 1);
    }

    private static void chainOfFour() {
        BootHall x = hall(1, "file 0;");
        x.file(1, 1);
        x.file(1, 2);
        x.file(1, 3);
        x.file(1, -1);
        Check.due("the third", Halls.all(x, 0, 2), FETCHES, 2, 0, -1, 0, 0, 0, 0, 1, 3);
        Check.due("a fourth", Halls.all(x, 0, 3), RESCUE, -1, -1, -1, 5, 0, 0, 0, 1, 0);
        Check.due("which is not sent", x.sent(3, 0), 0);
        Check.read(x, 0, "file 1;");
        Check.due("from the second on it is well", x.state(0, 299, 3), 3);
    }

    private static void chainOfItself() {
        BootHall x = hall(1, "file 0;");
        x.file(2, 0);
        Check.due("first", Halls.all(x, 0, 1), FETCHES, 0, 1, -1, 0, 0, 0, 0, 1, 1);
        Check.due("second", Halls.all(x, 0, 2), FETCHES, 0, 0, -1, 0, 0, 0, 0, 1, 2);
        Check.due("third", Halls.all(x, 0, 4), FETCHES, 0, 0, -1, 0, 0, 0, 0, 1, 3);
        Check.due("last", Halls.all(x, 0, 6), RESCUE, -1, -1, -1, 5, 0, 0, 0, 1, 0);
        Check.due("sent thrice", x.sent(0, 0) * 10 + x.sent(0, 1), 33);
    }

    // "or no such FILE is there, RESCUE (reason 5)"
    private static void chainToNoFile() {
        for (int next = 1; next <= 5; next++) {
            BootHall x = hall(1, "file 0;");
            x.file(1, next);
            for (int there = 1; there < next; there++) {
                x.file(1, -1);
            }
            Check.due("next " + next + " of " + next, Halls.all(x, 0, 1), RESCUE, -1, -1, -1, 5, 0, 0, 0, 1, 0);
            x.file(1, -1);
            Check.due("next " + next + " of " + (next + 1), Halls.all(x, 0, 1), FETCHES, next, 0, -1, 0, 0, 0, 0, 1, 2);
        }
    }

    // ---- (1) CUT

    // "it is OFF for this TICK and the next two"
    private static void offForThree() {
        for (int cut = 0; cut <= 20; cut++) {
            BootHall x = Halls.simple(1, 3);
            x.cut(0, cut);
            for (int tick = cut; tick < cut + 3; tick++) {
                Check.due("cut " + cut + ", tick " + tick, Halls.all(x, 0, tick), 0, -1, -1, cut > 7 ? 0 : -1, 0, 0, 0, 0, cut == 0 ? 0 : 1, 0);
            }
            Check.due("cut " + cut + ", three behind", Halls.all(x, 0, cut + 3), FETCHES, 0, 0, cut > 7 ? 0 : -1, 0, 0, 0, 0, cut == 0 ? 1 : 2, 1);
        }
    }

    private static void cutAgain() {
        for (int again = 10; again <= 14; again++) {
            BootHall x = Halls.simple(1, 1);
            x.cut(0, 10);
            x.cut(0, again);
            int from = again + 3;
            Check.due("cut 10 and " + again + ": off", x.state(0, from - 1, 0), 0);
            Check.due("cut 10 and " + again + ": begins", x.state(0, from, 0), FETCHES);
            // Only behind a cut in tick 14 it was awake between the two.
            Check.due("cut 10 and " + again + ": BEGUN", x.state(0, from, 8), again == 14 ? 3 : 2);
            Check.due("cut 10 and " + again + ": awake in tick 13", x.state(0, 13, 0), again <= 10 || again == 14 ? FETCHES : 0);
        }
    }

    private static void cutInTheLastTicks() {
        int[] states = {UP, INSTALLS, INSTALLS, FETCHES, 0, 0, 0};
        for (int cut = 293; cut <= 299; cut++) {
            BootHall x = Halls.simple(1, 1);
            x.cut(0, cut);
            Check.due("cut " + cut + ": at last", x.state(0, 299, 0), states[cut - 293]);
            Check.due("cut " + cut + ": BEGUN", x.state(0, 299, 8), cut < 297 ? 2 : 1);
            Check.due("cut " + cut + ": disk", x.state(0, 299, 3), 0);
            Check.due("cut " + cut + ": ends", x.ends(), cut == 293 ? 299 : -1);
        }
    }

    // "TRIES, BAD, MISSES are 0; what it was writing is void; its whole IMAGE on the disk stays"
    private static void cutInEachState() {
        BootHall asks = hall(1, "");
        Check.due("TRIES", asks.state(0, 29, 5), 4);
        asks.cut(0, 29);
        Check.due("cut while it asks", Halls.all(asks, 0, 29), 0, -1, -1, -1, 0, 0, 0, 0, 1, 0);
        BootHall fetches = Halls.simple(1, 1);
        fetches.lose(0, 0);
        lose(fetches, 0, 3, 13);
        spoil(fetches, 0, 0, 14, 16);
        Check.due("TRIES, BAD, MISSES", Halls.all(fetches, 0, 16), FETCHES, 0, 0, -1, 0, 1, 3, 11, 1, 1);
        fetches.cut(0, 17);
        Check.due("cut while it fetches", Halls.all(fetches, 0, 17), 0, -1, -1, -1, 0, 0, 0, 0, 1, 0);
        for (int cut = 4; cut <= 7; cut++) {
            BootHall installs = Halls.simple(1, 3);
            installs.cut(0, cut);
            Check.due("installs ahead of " + cut, installs.state(0, cut - 1, 0), INSTALLS);
            Check.due("cut while it installs", Halls.all(installs, 0, cut), 0, -1, -1, -1, 0, 0, 0, 0, 1, 0);
            Check.due("writes all of it again", Halls.log(installs, 0), 2, 33, 10 * cut, 10 * cut + 32, 10 * cut + 63, 10 * cut + 104);
        }
        BootHall up = Halls.simple(1, 3);
        up.cut(0, 8);
        Check.due("cut when it is up", Halls.all(up, 0, 8), 0, -1, -1, 0, 0, 0, 0, 0, 1, 0);
        BootHall rescue = hall(1, "");
        rescue.cut(0, 31);
        Check.due("cut in rescue", Halls.all(rescue, 0, 31), 0, -1, -1, -1, 0, 0, 0, 0, 1, 0);
        Check.due("it asks anew", Halls.log(rescue, 0), 1, 305, 310, 341, 645);
    }

    // "neither ahead of its KIND's WAKE nor in such TICKS"
    private static void cutAheadOfTheWake() {
        for (int wake = 0; wake <= 12; wake++) {
            BootHall x = Halls.simple(1, 12);
            x.wake(0, wake);
            x.cut(0, 5);
            int begins = wake < 5 ? wake : Math.max(8, wake);
            Check.due("wake " + wake + ", cut 5: first change", x.log(0, 0), 10 * begins + FETCHES);
            Check.due("wake " + wake + ", cut 5: BEGUN at 8", x.state(0, 8, 8), wake < 5 ? 2 : wake <= 8 ? 1 : 0);
            Check.due("wake " + wake + ", cut 5: off at 7", x.state(0, 7, 0), 0);
        }
    }

    // "the new IMAGE is whole in place of the old one": in that TICK, not ahead of it
    private static void wholeOrNotAtAll() {
        BootHall x = hall(1, "file 0 if begun < 2; file 1 if 2 <= begun;");
        x.file(1, -1);
        x.file(3, -1);
        x.cut(0, 10);
        Check.due("the first", x.state(0, 12, 3), 0);
        Check.due("the second is all written", Halls.all(x, 0, 19), INSTALLS, 1, 3, 0, 0, 0, 0, 0, 2, 1);
        Check.due("and whole", Halls.all(x, 0, 20), UP, -1, -1, 1, 0, 0, 0, 0, 2, 0);
        x.cut(0, 20);
        Check.due("cut in that tick: the old one", Halls.all(x, 0, 20), 0, -1, -1, 0, 0, 0, 0, 0, 2, 0);
        Check.due("whole ten ticks later", x.state(0, 30, 3), 1);
        x.cut(0, 31);
        Check.due("cut one tick behind: the new one", x.state(0, 31, 3), 1);
    }

    // ---- THE GIVER's line

    // "the longest ahead"
    private static void longestAhead() {
        // 1 wakes a tick ahead of 0: it is first in the line until it has all.
        BootHall x = new BootHall();
        x.machine(0, 0, 0);
        x.machine(1, 0, 0);
        x.file(3, -1);
        x.file(3, -1);
        x.width(1);
        x.wake(0, 1);
        Check.read(x, 0, "file 0 if kind == 0; file 1 if kind == 1;");
        Check.due("1 gets three", x.state(1, 3, 0), INSTALLS);
        Check.due("0 none", x.state(0, 3, 7), 2);
        Check.due("then 0", x.state(0, 4, 2), 1);
        x.wake(1, 1);
        Check.due("at once: 0 gets three", x.state(0, 4, 0), INSTALLS);
        x.wake(1, 2);
        Check.due("1 later: 0 gets three", x.state(0, 4, 0), INSTALLS);
        x.wake(1, 0);
        x.wake(0, 299);
        Check.due("1 alone", x.state(1, 3, 0), INSTALLS);
    }

    // "of the same the lesser number"
    private static void lesserNumber() {
        BootHall x = new BootHall();
        for (int i = 0; i < 8; i++) {
            x.machine(i % 4, i, 0);
        }
        for (int i = 0; i < 6; i++) {
            x.file(1, -1);
        }
        x.width(1);
        Check.read(x, 0, "file 5 if place == 0; file 4 if place == 1; file 3 if place == 2; file 2 if place == 3;"
            + "file 1 if place == 4; file 0 if 5 <= place;");
        for (int i = 0; i < 8; i++) {
            int tick = Math.min(i, 5) + 1;
            Check.due(i + " waits in tick " + (tick - 1), x.state(i, tick - 1, 0), FETCHES);
            Check.due(i + " has its block in tick " + tick, x.state(i, tick, 0), INSTALLS);
        }
        Check.due("one for the last three", x.count(6), 6);
    }

    // "(TICKS since its block 0 was first wanted ..)": of what they FETCH now
    private static void newFileIsNewInLine() {
        BootHall x = new BootHall();
        x.machine(0, 0, 0);
        x.machine(1, 0, 0);
        x.file(1, 1);
        x.file(2, -1);
        x.file(3, -1);
        x.width(1);
        x.wake(1, 0);
        Check.read(x, 0, "file 0 if kind == 0; file 2 if kind == 1;");
        // Tick 1: 0's block. Then 0 is at FILE 1 since tick 2, 1 at FILE 2 since tick 1.
        Check.due("0 in tick 1", Halls.all(x, 0, 1), FETCHES, 1, 0, -1, 0, 0, 0, 0, 1, 2);
        Check.due("1 has its three first", x.state(1, 4, 0), INSTALLS);
        Check.due("0 waits for it", Halls.all(x, 0, 4), FETCHES, 1, 0, -1, 0, 0, 0, 3, 1, 2);
        Check.due("then 0", x.state(0, 6, 0), INSTALLS);
        // Both new in the same tick: the lesser number.
        x.wake(1, 1);
        Check.due("0 goes on", x.state(0, 3, 0), INSTALLS);
        Check.due("1 waits", x.state(1, 3, 7), 2);
    }

    /** A FILE that loads itself is fetched anew. */
    private static void itselfIsNewInLine() {
        BootHall x = new BootHall();
        x.machine(0, 0, 0);
        x.machine(1, 0, 0);
        x.file(1, 0);
        x.file(2, -1);
        x.width(1);
        Check.read(x, 0, "file 0 if kind == 0; file 1 if kind == 1;");
        Check.due("0's first", x.state(0, 1, 9), 2);
        Check.due("1's both", x.state(1, 3, 0), INSTALLS);
        Check.due("0 waits", Halls.all(x, 0, 3), FETCHES, 0, 0, -1, 0, 0, 0, 2, 1, 2);
    }

    // "without a break"
    private static void cutIsABreak() {
        BootHall x = new BootHall();
        x.machine(0, 0, 0);
        x.machine(1, 0, 0);
        x.file(6, -1);
        x.file(6, -1);
        x.width(1);
        x.wake(1, 3);
        x.cut(0, 2);
        Check.read(x, 0, "file 0 if kind == 0; file 1 if kind == 1;");
        // 0 fetches anew since tick 6, 1 since tick 4.
        Check.due("0 begins", x.state(0, 5, 0), FETCHES);
        Check.due("1 goes first", x.state(1, 9, 0), INSTALLS);
        Check.due("0 missed four", Halls.all(x, 0, 9), FETCHES, 0, 0, -1, 0, 0, 0, 4, 2, 1);
        Check.due("0 then", x.state(0, 15, 0), INSTALLS);
    }

    /** Neither a miss nor a WRONG block is a break: who is ahead stays ahead. */
    private static void missIsNoBreak() {
        BootHall x = new BootHall();
        x.machine(0, 0, 0);
        x.machine(1, 0, 0);
        x.file(2, -1);
        x.file(2, -1);
        x.width(1);
        x.wake(0, 1);
        Check.read(x, 0, "file 0 if kind == 0; file 1 if kind == 1;");
        lose(x, 1, 1, 4);
        spoil(x, 1, 0, 5, 6);
        Check.due("1 missed four, two were wrong", Halls.all(x, 1, 6), FETCHES, 1, 0, -1, 0, 0, 2, 4, 1, 1);
        Check.due("0 got none all the time", x.state(0, 6, 7), 5);
        Check.due("1 has all in tick 8", x.state(1, 8, 0), INSTALLS);
        Check.due("0 in tick 10", x.state(0, 10, 0), INSTALLS);
        Check.due("sent in vain too", x.sent(1, 0), 7);
    }

    // "it sends the first WIDTH unlike blocks (FILE and block) of these"
    private static void widthIsOfUnlikeOnes() {
        BootHall x = hall(4, "file 0 if place <= 1; file 1 if place == 2; file 2 if place == 3;");
        x.file(1, -1);
        x.file(1, -1);
        x.file(1, -1);
        Check.due("two alike count once", x.sends(1), 2);
        Check.due("so 2 gets its own", x.state(2, 1, 0), INSTALLS);
        Check.due("3 does not", x.state(3, 1, 7), 1);
        x.width(3);
        Check.due("three do", x.state(3, 1, 0), INSTALLS);
        x.width(1);
        Check.due("one", x.state(1, 1, 0) * 10 + x.state(2, 1, 0), 32);
        // The same block number of two FILES, and two blocks of one FILE, are unlike.
        BootHall y = new BootHall();
        y.machine(0, 0, 0);
        y.machine(1, 0, 0);
        y.file(3, -1);
        y.wake(1, 1);
        y.width(1);
        Check.read(y, 0, "file 0;");
        Check.due("block 1 for 0", y.state(0, 2, 2), 2);
        Check.due("so no block 0 for 1", y.state(1, 2, 7), 1);
        y.width(2);
        Check.due("both", y.sends(2), 2);
    }

    // "one sending for all who want it": also for who is far behind in the line
    private static void oneSendingForAll() {
        BootHall x = hall(3, "file 0 if place != 1; file 1 if place == 1;");
        x.file(2, -1);
        x.file(2, -1);
        x.width(1);
        Check.due("2 gets 0's", x.state(2, 1, 2), 1);
        Check.due("1 waits", x.state(1, 1, 7), 1);
        Check.due("and again", x.state(2, 2, 0), INSTALLS);
        Check.due("1 then", x.state(1, 3, 2), 1);
        Check.due("four sendings", x.count(6), 4);
        // WRONG for all who get it; LOST for one alone, and it is sent all the same.
        x.spoil(0, 0, 1);
        Check.due("wrong for 0 and 2", x.state(0, 1, 6) * 10 + x.state(2, 1, 6), 11);
        x.lose(0, 2);
        Check.due("lost for 0", x.state(0, 2, 7), 1);
        Check.due("not for 2", x.state(2, 2, 2), 1);
        BootHall y = Halls.simple(8, 1);
        for (int i = 0; i < 8; i++) {
            y.lose(i, 1);
        }
        Check.due("lost for all: still sent", y.sends(1), 1);
        Check.due("and again", y.sent(0, 0), 2);
    }

    // ---- (4) INSTALL

    // "a block a TICK is written; one TICK behind the last one the new IMAGE is whole .. and it is UP"
    private static void installs() {
        for (int blocks = 1; blocks <= 12; blocks++) {
            BootHall x = Halls.simple(1, blocks);
            for (int written = 0; written <= blocks; written++) {
                Check.due(written + " of " + blocks + " written", Halls.all(x, 0, blocks + written), INSTALLS, 0, written, -1, 0, 0, 0, 0, 1, 1);
            }
            Check.due("all " + blocks + " written, a tick later", Halls.all(x, 0, 2 * blocks + 1), UP, -1, -1, 0, 0, 0, 0, 0, 1, 0);
        }
        BootHall y = Halls.simple(1, 12);
        y.wake(0, 274);
        Check.due("up in the last tick", y.state(0, 299, 0), UP);
        y.wake(0, 275);
        Check.due("all written in the last tick", y.state(0, 299, 2), 12);
    }

    // "UP and RESCUE stay till the power is CUT"
    private static void stays() {
        BootHall x = Halls.simple(1, 1);
        lose(x, 0, 3, 60);
        spoil(x, 0, 0, 3, 60);
        x.down(0, 3, 300);
        Check.due("up for ever", Halls.log(x, 0), 2, 13, 34);
        BootHall y = hall(1, "file 0 if 31 <= tick;");
        y.file(1, -1);
        Check.due("in rescue for ever", Halls.log(y, 0), 1, 305);
        y.cut(0, 299);
        Check.due("till the last tick", Halls.log(y, 0), 1, 305, 2990);
    }

    /** What is told behind an answer is as if it had been told ahead of it: no run leaves a trace in the next. */
    private static void nothingOfAnEarlierAnswer() {
        BootHall x = hall(1, "");
        Check.due("in rescue", x.state(0, 299, 5), 5);
        x.wake(0, 40);
        Check.due("off then", Halls.all(x, 0, 39), 0, -1, -1, -1, 0, 0, 0, 0, 0, 0);
        BootHall y = Halls.simple(1, 2);
        lose(y, 0, 1, 11);
        spoil(y, 0, 0, 12, 15);
        Check.due("in rescue", Halls.all(y, 0, 299), RESCUE, -1, -1, -1, 3, 0, 4, 11, 1, 0);
        y.wake(0, 40);
        Check.due("off then", Halls.all(y, 0, 39), 0, -1, -1, -1, 0, 0, 0, 0, 0, 0);
        Check.due("fetches", Halls.all(y, 0, 40), FETCHES, 0, 0, -1, 0, 0, 0, 0, 1, 1);
        Check.due("blocks", y.sent(0, 0) * 10 + y.sent(0, 1), 11);
        Check.due("none ahead", y.sends(1) + y.sends(15), 0);
        Check.due("up", Halls.all(y, 0, 299), UP, -1, -1, 0, 0, 0, 0, 0, 1, 0);
        y.cut(0, 39);
        Check.due("no image on the disk ahead of the first", y.state(0, 41, 3), -1);
        Check.due("begins", y.log(0, 0), 422);
    }

    // "An object is used for at most 512 calls": the last one answers as it should
    private static void calls512() {
        BootHall x = Halls.simple(1, 1);
        int calls = 5;
        for (int tick = 0; calls < 511; tick++) {
            Check.due("wake", x.wake(0, tick % 290), true);
            Check.due("ends", x.ends(), tick % 290 + 3);
            calls += 2;
        }
        Check.due("the last", x.up(), 1);
    }
}
