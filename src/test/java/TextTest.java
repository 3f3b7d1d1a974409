/** Promises 2 to 5, and part II: tape, tokens, grammar, faults and their places. */
final class TextTest {
    public static void main(String[] args) {
        tape();
        readings();
        tokens();
        grammar();
        room();
        wrong();
        values();
        Check.finish();
    }

    private static void tape() {
        BootHall x = new BootHall();
        int blanks = 0x20202020;
        for (int n = 1; n <= 100; n++) {
            Check.due("feed " + n, x.feed(blanks, blanks, blanks, blanks, blanks), 20 * n);
        }
        Check.due("feed beyond 2000", x.feed(blanks, blanks, blanks, blanks, blanks), -1);
        Check.due("tape stays", x.count(7), 2000);
        Check.due("back(19)", x.back(19), 1981);
        Check.due("feed above by one", x.feed(blanks, blanks, blanks, blanks, blanks), -1);
        Check.due("back(1)", x.back(1), 1980);
        Check.due("feed to the brim", x.feed(blanks, blanks, blanks, blanks, blanks), 2000);
        Check.due("back(-1)", x.back(-1), -1);
        Check.due("back(least)", x.back(Integer.MIN_VALUE), -1);
        Check.due("back(2001)", x.back(2001), -1);
        Check.due("back(most)", x.back(Integer.MAX_VALUE), -1);
        Check.due("tape still", x.count(7), 2000);
        Check.due("back(0)", x.back(0), 2000);
        Check.due("read of 2000 blanks", x.read(0), 0);
        Check.due("tape is empty", x.count(7), 0);
        Check.due("back(1) of none", x.back(1), -1);
        Check.due("back(0) of none", x.back(0), 0);
    }

    private static void readings() {
        BootHall x = new BootHall();
        Check.type(x, "file 0;");
        Check.due("read(2)", x.read(2), -1);
        Check.due("read(-1)", x.read(-1), -1);
        Check.due("the tape stays", x.count(7), 7);
        Check.due("read(1)", x.read(1), 0);
        Check.due("rules of 0", x.count(2), 0);
        Check.due("rules of 1", x.count(3), 1);
        Check.due("a fault", Check.read(x, 1, "file 0; file"), 1);
        Check.due("its place", x.place(), 12);
        Check.due("tape empty behind a fault", x.count(7), 0);
        Check.due("a fault changes nothing", x.count(3), 1);
        Check.due("NONE leaves", x.read(7), -1);
        Check.due("the place", x.place(), 12);
        Check.due("in place of the one ahead", Check.read(x, 1, "file 1; file 2 if kind == 0; after 3 if 1 == 1;"), 0);
        Check.due("place without fault", x.place(), -1);
        Check.due("three rules", x.count(3), 3);
        Check.due("an empty text", x.read(1), 0);
        Check.due("no rules", x.count(3), 0);
        x.file(1, -1);
        x.file(1, -1);
        x.machine(0, 0, 0);
        Check.read(x, 0, "file 1;");
        Check.due("told file", x.answer(0, 0, 0), 1);
        Check.due("fault late in a text", Check.read(x, 0, "file 0; file 0; x"), 1);
        Check.due("the old text answers", x.answer(0, 0, 0), 1);
        Check.due("WRONG", Check.read(x, 0, "file 0; file 6;"), 5);
        Check.due("the old text answers still", x.answer(0, 0, 0), 1);
    }

    private static void tokens() {
        Texts.fine("");
        Texts.fine(" \t\n\r");
        Texts.fine("file0;");
        Texts.fine("file\t0\n;\r");
        Texts.fine("file 0if kind==1;");
        Texts.fine("file 0005;");
        Texts.fault("file 00005;", 1, 5);
        Texts.fault("file 12345", 1, 5);
        Texts.fine("file 0 if 9999<9999;");
        Texts.fault("file 0 if 1 < 10000;", 1, 14);
        Texts.fault("filefile 0;", 1, 0);
        Texts.fault("abcdefghi", 1, 0);
        Texts.fault("file 0 if kindkindkind == 1;", 1, 10);
        Texts.fault("file 0 if xxxxkind == 1;", 1, 10);
        Texts.fault("file 0 if kinds == 1;", 1, 10);
        Texts.fault("File 0;", 1, 0);
        Texts.fault("\u0000file 0;", 1, 0);
        Texts.fault("file 0;\u00ff", 1, 7);
        Texts.fault("file\u000b0;", 1, 4);
        Texts.fault("file 0;.", 1, 7);
        Texts.fault("file 0 if kind = 1;", 1, 15);
        Texts.fault("file 0 if kind ! 1;", 1, 15);
        Texts.fault("file 0 if kind === 1;", 1, 17);
        Texts.fault("file 0 if kind <== 1;", 1, 17);
        Texts.fault("file 0 if kind =! 1;", 1, 15);
        Texts.fault("file 0 if kind > 1;", 1, 15);
        Texts.fault("file 0 if kind == -1;", 1, 18);
        Texts.fault("file 0 if kind < = 1;", 1, 17);
        Texts.fine("file 0 if kind<=1;");
        Texts.fine("file 0 if kind!=1;");
        Texts.fault("file 0 if kind == 1 =", 1, 20);
        Texts.fault("file 0 if kind !", 1, 15);
    }

    private static void grammar() {
        Texts.fault("file", 1, 4);
        Texts.fault("file  ", 1, 6);
        Texts.fault("file 0", 1, 6);
        Texts.fault("file 0 if", 1, 9);
        Texts.fault("file 0 if;", 1, 9);
        Texts.fault("file 0 if kind;", 1, 14);
        Texts.fault("file 0 if kind == ;", 1, 18);
        Texts.fault("file 0 if kind == 1", 1, 19);
        Texts.fault("file 0 if kind == 1 == 1;", 1, 20);
        Texts.fault("file 0 if (kind == 1);", 1, 16);
        Texts.fault("file 0 if (kind) == 1);", 1, 21);
        Texts.fault("file 0 if (kind;", 1, 15);
        Texts.fault("file 0 if (kind", 1, 15);
        Texts.fault("file 0 if () == 1;", 1, 11);
        Texts.fault("file 0 if kind and 1 == 1;", 1, 15);
        Texts.fault("file 0 if kind == 1 and;", 1, 23);
        Texts.fault("file 0 if kind == 1 or or 1 == 1;", 1, 23);
        Texts.fault("file 0 if kind kind == 1;", 1, 15);
        Texts.fault("file 0 if kind (1) == 1;", 1, 15);
        Texts.fault("file 0 if kind == 1 if 1 == 1;", 1, 20);
        Texts.fault("file if kind == 1;", 1, 5);
        Texts.fault("file kind;", 1, 5);
        Texts.fault("file (0);", 1, 5);
        Texts.fault("file 0 0;", 1, 7);
        Texts.fault(";", 1, 0);
        Texts.fault("file 0;;", 1, 7);
        Texts.fault("if kind == 1;", 1, 0);
        Texts.fault("after 0;", 1, 7);
        Texts.fault("after 0", 1, 7);
        Texts.fault("after;", 1, 5);
        Texts.fault("after 0 file 0;", 1, 8);
        Texts.fine("after 3 if 1 == 1;");
        Texts.fine("file 5;file 4 if kind+place-mark*tries==bad*(begun-tick);after 0 if ((1))<2 or 1<2 and 2<=2;");
        Texts.fault("file 0 if file == 1;", 1, 10);
        Texts.fault("file 0 if and == 1;", 1, 10);
        Texts.fault("file 0 if 1 + + 1 == 2;", 1, 14);
        Texts.fault("file 0 if * 1 == 2;", 1, 10);
        Texts.fault("file 0 if 1 == 2 ) ;", 1, 17);
    }

    private static String times(String part, int n) {
        return part.repeat(n);
    }

    private static void room() {
        Texts.fine("file 0 if ((((((1)))))) == 1;");
        Texts.fault("file 0 if (((((((1))))))) == 1;", 2, 16);
        Texts.fine("file 0 if ((((((1)))))) == ((((((1))))));");
        Texts.fine("file 0 if ((((((1))))) + (1)) == 1;");
        Texts.fault("file 0 if ((((((1) + (1))))) + (((((((1)))))) == 1;", 2, 36);
        Texts.fault("file 0 if ((((((1(", 1, 17);
        Texts.fault("file 0 if (((((( ( x", 2, 17);
        Texts.fine(times("file 0;", 20));
        Texts.fault(times("file 0;", 20) + " file", 2, 141);
        Texts.fault(times("file 0;", 20) + "after x", 2, 140);
        Texts.fault(times("file 0;", 20) + "x", 1, 140);
        Texts.fault(times("file 0;", 20) + "12345", 1, 140);
        Texts.fault(times("file 0;", 19) + "after 0 if 1 < 2; file 0;", 2, 151);
        // 6 tokens ahead of the sums, 2 a sum, then a ';'.
        String begin = "file 0 if 1<1";
        String exact = "file 0;" + begin + times("+1", 195) + ";";
        Texts.fine(exact + "  ");
        Texts.fault(exact + " file", 2, exact.length() + 1);
        Texts.fault(exact + " ;", 1, exact.length() + 1);
        String full = begin + times("+1", 197);
        Texts.fault(full, 1, full.length());
        Texts.fault(full + ";", 2, full.length());
        Texts.fault(full + "+1;", 2, full.length());
        Texts.fault(full + " x", 1, full.length() + 1);
        Texts.fault(full + " )", 1, full.length() + 1);
        Texts.fault(full + "=", 1, full.length());
        Texts.fault(begin + times("+1", 196) + "; file 0;", 2, begin.length() + 399);
        Texts.fault(begin + times("+1", 196) + "; ;", 1, begin.length() + 394);
        // a WRONG one ahead gives way to any fault of the other kinds.
        Texts.fault("file 6; " + times("file 0;", 20), 2, 8 + 133);
        Texts.fault("file 6; x", 1, 8);
    }

    private static void wrong() {
        Texts.fine("file 5;");
        Texts.fault("file 6;", 5, 5);
        Texts.fault("file 9999;", 5, 5);
        Texts.fine("after 3 if 1 == 1;");
        Texts.fault("after 4 if 1 == 1;", 5, 6);
        Texts.fault("file 0; after 5 if 1 == 1; file 7;", 5, 14);
        Texts.fault("file 0; file  7; after 5 if 1 == 1;", 5, 14);
        Texts.fine("file 0 if 7 < 8;");
    }

    private static void values() {
        Texts.holds("1 + 2 * 3 == 7", true);
        Texts.holds("(1 + 2) * 3 == 9", true);
        Texts.holds("10 - 3 - 2 == 5", true);
        Texts.holds("10 - (3 - 2) == 9", true);
        Texts.holds("2 * 3 + 4 * 5 - 6 == 20", true);
        Texts.holds("1 - 2 < 0", true);
        Texts.holds("0 < 1 - 2", false);
        Texts.holds("1 < 1", false);
        Texts.holds("1 <= 1", true);
        Texts.holds("2 <= 1", false);
        Texts.holds("1 != 2", true);
        Texts.holds("1 != 1", false);
        Texts.holds("1 == 1 or 1 == 1 and 1 == 2", true);
        Texts.holds("1 == 2 and 1 == 1 or 1 == 1", true);
        Texts.holds("1 == 2 and 1 == 1 or 1 == 2 and 1 == 1", false);
        Texts.holds("1 == 1 and 1 == 1 and 1 == 1", true);
        Texts.holds("1 == 1 and 1 == 1 and 1 == 2", false);
        Texts.holds("1 == 2 or 1 == 2 or 1 == 1", true);
        Texts.holds("kind == 3 and place == 7 and mark == 99", true);
        Texts.holds("tick == 7 and begun == 1 and bad == 0", true);
        // 65536 * 32768 wraps to the least int, 65536 * 65536 to 0.
        Texts.holds("256 * 256 * 256 * 128 < 0", true);
        Texts.holds("256 * 256 * 256 * 256 == 0", true);
        Texts.holds("256 * 256 * 256 * 128 - 1 == 256 * 256 * 256 * 127 + 256 * 256 * 256 - 1", true);
        Texts.holds("0 - 256 * 256 * 256 * 128 < 0", true);
        Texts.holds("1*(2*(3*(4*(5*(6+1)-1)-1)-1)-1)==1*(2*(3*(4*(5*(6+1)-1)-1)-1)-1)", true);
        Texts.holds("1*(2*(3*(4*(5*(6+1)-1)-1)-1)-1)==807", true);
        // as deep as both stacks ever get
        String deep = times("1+1*(", 6) + "1+1*2" + times(")", 6);
        Texts.holds("1 == 2 or 1 == 1 and 9 == " + deep, true);
        Texts.holds("1 == 2 or 1 == 1 and 8 == " + deep, false);
        Texts.holds("1 == 2 or 1 == 1 and " + deep + " < 9 + " + deep, true);
    }
}
