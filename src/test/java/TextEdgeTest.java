/** Promises 2 to 5 and part II at their limits: the tape, the longest tokens, room, the text's end, ints that wrap. */
final class TextEdgeTest {
    private static final int BLANKS = 0x20202020;
    private static final String MOST = "(127 * 256 * 256 * 256 + 255 * 256 * 256 + 255 * 256 + 255)";
    private static final String LEAST = "(256 * 256 * 256 * 128)";

    public static void main(String[] args) {
        feedHighestFirst();
        feedToTheBrim();
        feedRefused();
        backTakes();
        backRefused();
        readEmptiesTheTape();
        readRefused();
        readOfAnEmptyTape();
        placeOfTheLatest();
        aFaultChangesNothing();
        inPlaceOfTheOneAhead();
        aFaultLeavesTheNextTextAlone();
        manyTextsOneBehindTheOther();
        aTextOf2000Bytes();
        blanks();
        bytesThatAreNoTokens();
        longestWords();
        longestInts();
        longestSigns();
        endOfTheText();
        tokens400();
        rules20();
        brackets6();
        firstByItsPlace();
        ofOnePlaceTheLeast();
        wrongIfNoOther();
        wrongFile();
        wrongAfter();
        intsWrap();
        comparesWithoutWrap();
        whatBindsFirst();
        varsAtTheirLimits();
        noConditionHolds();
        Check.finish();
    }

    private static void feedBlanks(BootHall x, int times) {
        for (int i = 0; i < times; i++) {
            x.feed(BLANKS, BLANKS, BLANKS, BLANKS, BLANKS);
        }
    }

    // "Twenty bytes, the highest of a first, come behind the tape: how many it has"
    private static void feedHighestFirst() {
        BootHall x = new BootHall();
        x.file(1, -1);
        x.machine(2, 0, 0);
        // "file 0 if 1 <= kind;" by fours
        Check.due("feed", x.feed(0x66696C65, 0x20302069, 0x66203120, 0x3C3D206B, 0x696E643B), 20);
        Check.due("feed again", x.feed(BLANKS, BLANKS, BLANKS, BLANKS, BLANKS), 40);
        Check.due("read", x.read(0), 0);
        Check.due("answer", x.answer(0, 0, 0), 0);
        // Each place in the twenty, and bytes above 127, which no sign may spoil.
        for (int at = 0; at < 20; at++) {
            int[] w = {BLANKS, BLANKS, BLANKS, BLANKS, BLANKS};
            w[at / 4] |= 0xFF << (8 * (3 - at % 4));
            BootHall y = new BootHall();
            Check.due("feed with byte 255 at " + at, y.feed(w[0], w[1], w[2], w[3], w[4]), 20);
            Check.due("its fault", y.read(0), 1);
            Check.due("its place", y.place(), at);
        }
        Check.due("feed of 0s and -1s", x.feed(0, -1, 0, Integer.MIN_VALUE, Integer.MAX_VALUE), 20);
        Check.due("a byte 0 is no token", x.read(0), 1);
        Check.due("at", x.place(), 0);
    }

    // "NONE, and nothing comes, if it would have more than 2,000": 2,000 is taken
    private static void feedToTheBrim() {
        BootHall x = new BootHall();
        for (int n = 1; n <= 100; n++) {
            Check.due("feed " + n, x.feed(BLANKS, BLANKS, BLANKS, BLANKS, BLANKS), 20 * n);
        }
        Check.due("the 101st", x.feed(BLANKS, BLANKS, BLANKS, BLANKS, BLANKS), -1);
        Check.due("count(7)", x.count(7), 2000);
        x.back(20);
        Check.due("1980 and 20", x.feed(BLANKS, BLANKS, BLANKS, BLANKS, BLANKS), 2000);
        x.back(19);
        Check.due("1981 and 20", x.feed(BLANKS, BLANKS, BLANKS, BLANKS, BLANKS), -1);
        Check.due("count(7)", x.count(7), 1981);
    }

    private static void feedRefused() {
        for (int bytes = 1981; bytes <= 2000; bytes++) {
            String tape = "file 1;" + " ".repeat(bytes - 7);
            Same.behindRefused("feed behind " + bytes, -1, x -> {
                Halls.busyWithoutTape(x);
                Check.type(x, tape);
            }, x -> x.feed(0x66696C65, 0x20303B20, BLANKS, BLANKS, BLANKS));
        }
    }

    // "The last n bytes of the tape go: how many it has"
    private static void backTakes() {
        BootHall x = new BootHall();
        Check.due("back(0) of none", x.back(0), 0);
        Check.type(x, "file 0; file 0; xyz");
        Check.due("back(0)", x.back(0), 19);
        Check.due("back(1)", x.back(1), 18);
        Check.due("back(3)", x.back(3), 15);
        Check.type(x, "?");
        Check.due("what went is gone, what stays is there", x.read(0), 1);
        Check.due("place", x.place(), 15);
        Check.type(x, "file 0;");
        Check.due("back of all", x.back(7), 0);
        Check.due("empty", x.read(0), 0);
        Check.due("no rules", x.count(2), 0);
        feedBlanks(x, 100);
        Check.due("back(2000)", x.back(2000), 0);
        Check.due("feed behind it", x.feed(BLANKS, BLANKS, BLANKS, BLANKS, BLANKS), 20);
    }

    // "NONE, and nothing goes, if it has not so many, or n is below 0"
    private static void backRefused() {
        for (int bad : Same.outside(0, 28)) {
            Same.behindRefused("back(" + bad + ") of 28", -1, Halls::busy, x -> x.back(bad));
        }
        for (int bad : Same.outside(0, 0)) {
            Same.behindRefused("back(" + bad + ") of none", -1, Halls::busyWithoutTape, x -> x.back(bad));
        }
        for (int bad : Same.outside(0, 2000)) {
            Same.behindRefused("back(" + bad + ") of 2000", -1, x -> feedBlanks(x, 100), x -> x.back(bad));
        }
    }

    // "The tape, which is empty then, is a KEEPER's text": with a FAULT too
    private static void readEmptiesTheTape() {
        String[] texts = {"file 0;", "file", "file 6;", "file 0;".repeat(21)};
        int[] faults = {0, 1, 5, 2};
        for (int i = 0; i < texts.length; i++) {
            BootHall x = new BootHall();
            Check.due("read " + i, Check.read(x, 1, texts[i]), faults[i]);
            Check.due("the tape behind it", x.count(7), 0);
            Check.due("back(1)", x.back(1), -1);
            Check.due("read of nothing", x.read(1), 0);
        }
    }

    // "NONE: no such KEEPER (the tape stays)"
    private static void readRefused() {
        for (int bad : Same.outside(0, 1)) {
            Same.behindRefused("read(" + bad + ")", -1, Halls::busy, x -> x.read(bad));
            Same.behindRefused("read(" + bad + ") of none", -1, Halls::busyWithoutTape, x -> x.read(bad));
        }
    }

    // "text: {RULE}": no RULE is a text
    private static void readOfAnEmptyTape() {
        for (int keeper = 0; keeper < 2; keeper++) {
            BootHall x = new BootHall();
            Check.read(x, 0, "file 0;");
            Check.read(x, 1, "file 0;");
            Check.due("read(" + keeper + ") of nothing", x.read(keeper), 0);
            Check.due("place", x.place(), -1);
            Check.due("its rules", x.count(2 + keeper), 0);
            Check.due("the other's rules", x.count(3 - keeper), 1);
        }
    }

    // "The byte of the latest read()'s FAULT (that was not NONE); NONE without"
    private static void placeOfTheLatest() {
        BootHall x = new BootHall();
        Check.due("ahead of all", x.place(), -1);
        x.read(2);
        Check.due("behind a read that was NONE", x.place(), -1);
        Check.read(x, 0, "x");
        Check.due("a fault at 0", x.place(), 0);
        Check.read(x, 1, "file 0; file 0");
        Check.due("the latest, of either keeper", x.place(), 14);
        x.read(-1);
        x.read(2);
        Check.due("NONE leaves it", x.place(), 14);
        Check.type(x, "file");
        Check.due("the tape leaves it", x.place(), 14);
        x.back(4);
        Check.read(x, 1, "file 6;");
        Check.due("a WRONG one", x.place(), 5);
        Check.read(x, 0, "file 0;");
        Check.due("without a fault", x.place(), -1);
        x.read(9);
        Check.due("and NONE leaves that", x.place(), -1);
    }

    // "A text with a FAULT changes nothing"
    private static void aFaultChangesNothing() {
        String[] texts = {"?", "file 2; file", "file 1;".repeat(21), "file 2 if (((((((1))))))) == 1;", "file 2; after 4 if 1 == 1;", "file 1; file 6;"};
        int[] faults = {1, 1, 2, 2, 5, 5};
        for (int i = 0; i < texts.length; i++) {
            Same.behindFault(texts[i], 0, faults[i], Halls::busyWithoutTape);
            Same.behindFault(texts[i], 1, faults[i], Halls::busyWithoutTape);
        }
    }

    // "else it is that KEEPER's, in place of the one ahead"
    private static void inPlaceOfTheOneAhead() {
        BootHall x = Halls.simple(1, 1);
        x.file(1, -1);
        Check.read(x, 1, "file 0; file 0; file 0;");
        Check.due("ahead", x.state(0, 299, 3), 0);
        Check.due("a shorter one", Check.read(x, 0, "file 1;"), 0);
        Check.due("rules of 0", x.count(2), 1);
        Check.due("rules of 1", x.count(3), 3);
        Check.due("it counts", x.state(0, 299, 3), 1);
        Check.due("the other's stays", x.answer(1, 0, 0), 0);
        Check.due("a fault between", Check.read(x, 0, "file 0; file 0"), 1);
        Check.due("the other's text", Check.read(x, 1, "file 1; file 1;"), 0);
        Check.due("rules of 0", x.count(2), 1);
        Check.due("rules of 1", x.count(3), 2);
        Check.due("0 answers", x.answer(0, 0, 0), 1);
        Check.due("1 answers", x.answer(1, 0, 0), 1);
    }

    /** Where a text broke off is nothing to the next one. */
    private static void aFaultLeavesTheNextTextAlone() {
        String[] broken = {"file 0 if ((((((1", "file 0 if 1 == 1 or 1 == 1 and 1 + 2 *", "file", "after 0", "file 0 if 1 ==", "file 0 if (1 == 2", "file 9; after 9"};
        for (String text : broken) {
            BootHall x = new BootHall();
            x.machine(3, 7, 99);
            x.file(1, -1);
            for (int i = 0; i < 12; i++) {
                Check.due(text, Check.read(x, 0, text), 1);
            }
            Check.due("behind " + text, Check.read(x, 0, "file 0 if 2 + 3 * ((((((kind)))))) == 15 or mark < 99;"), 0);
            Check.due("it does not hold", x.answer(0, 0, 0), -1);
            Check.due("behind " + text, Check.read(x, 0, "file 0 if 2 + 3 * ((((((kind)))))) == 11 and mark < 100;"), 0);
            Check.due("it holds", x.answer(0, 0, 0), 0);
            Check.due("no REL yet", Check.read(x, 0, "file 0 if kind;"), 1);
        }
    }

    /** Each has all the room there is. */
    private static void manyTextsOneBehindTheOther() {
        BootHall x = new BootHall();
        x.machine(3, 7, 99);
        x.file(1, -1);
        String sums = "file 0 if " + "1+".repeat(195) + "1";
        for (int i = 0; i < 9; i++) {
            boolean holds = i % 3 != 0;
            Check.due("text " + i, Check.read(x, i % 2, sums + "==" + (holds ? 196 : 197) + ";"), 0);
            Check.due("answer " + i, x.answer(i % 2, 0, 0), holds ? 0 : -1);
        }
        for (int i = 0; i < 30; i++) {
            Check.due("short text " + i, Check.read(x, 0, "file 0;file 0;file 0;"), 0);
            Check.due("its rules", x.count(2), 3);
        }
    }

    // "of at most 2,000 bytes"
    private static void aTextOf2000Bytes() {
        String rule = "file 0;";
        BootHall x = new BootHall();
        x.file(1, -1);
        x.machine(0, 0, 0);
        Check.type(x, " ".repeat(1993) + rule);
        Check.due("2000 bytes", x.count(7), 2000);
        Check.due("read", x.read(0), 0);
        Check.due("its last rule", x.answer(0, 0, 0), 0);
        Texts.fault(" ".repeat(1994) + "file 0", 1, 2000);
        Texts.fault(" ".repeat(1999) + "?", 1, 1999);
        Texts.fault("?" + " ".repeat(1999), 1, 0);
        Texts.fault(" ".repeat(1999) + "=", 1, 1999);
        Texts.fault("file 0 if 1 <" + " ".repeat(1987), 1, 2000);
        Texts.fault("file 0 if 1 " + " ".repeat(1987) + "<", 1, 2000);
        Texts.fault("a".repeat(2000), 1, 0);
        Texts.fault("file " + "0".repeat(1995), 1, 5);
        Texts.fine(" ".repeat(2000));
    }

    // "blanks (9, 10, 13, 32) between or not"
    private static void blanks() {
        int[] blanks = {9, 10, 13, 32};
        for (int b : blanks) {
            String blank = String.valueOf((char) b);
            Texts.fine("file" + blank + "0;");
            Texts.fine(blank + "file 0 " + blank + "if kind" + blank + "==" + blank + "(1);" + blank);
            Texts.fault("fi" + blank + "le 0;", 1, 0);
            Texts.fault("file 0 if kind =" + blank + "= 1;", 1, 15);
            Texts.fault("file 0 if kind <" + blank + "= 1;", 1, 17);
            Texts.fault("file 1" + blank + "1;", 1, 7);
            Texts.fault(blank, 0, -1);
        }
        Texts.fine("file0if(kind)+1*2-3==4and 1<2or 1!=2;after0if 1<=2;");
        Texts.fault("file0if(kind)==4andkind<2;", 1, 16);
    }

    // "all else, is no TOKEN"
    private static void bytesThatAreNoTokens() {
        String blanksAndSigns = "\t\n\r ;+-*<()";
        for (int b = 0; b < 256; b++) {
            String one = String.valueOf((char) b);
            boolean letter = b >= 'a' && b <= 'z';
            boolean digit = b >= '0' && b <= '9';
            if (letter) {
                Texts.fault("file" + one + " 0;", 1, 0);
            } else if (digit) {
                Texts.fault("file 0" + one + ";", b <= '5' ? 0 : 5, b <= '5' ? -1 : 5);
            } else if (blanksAndSigns.indexOf(b) < 0) {
                Texts.fault("file 0;" + one, 1, 7);
                Texts.fault("file 0 if kind " + one + " 1;", 1, 15);
                Texts.fault("file 0 if kind" + one + "(1);", 1, 14);
                Texts.fault("file" + one + "0;", 1, 4);
                // neither a part of a word nor of an INT
                Texts.fault("file 0" + one + "0;", 1, 6);
                Texts.fault("file 0 if ki" + one + "nd == 1;", 1, 10);
            } else if (one.isBlank()) {
                Texts.fine("file 0;" + one);
            } else {
                Texts.fault("file 0;" + one, 1, 7);
            }
        }
    }

    // "WORDS (letters a .. z, 8 at most)"; "TOKENS, the longest that can be"; "A longer one .. is no TOKEN"
    private static void longestWords() {
        String[] words = {"file", "after", "if", "or", "and", "kind", "place", "mark", "tries", "bad", "begun", "tick"};
        for (String word : words) {
            for (int letters = 1; word.length() + letters <= 20; letters++) {
                String more = "a".repeat(letters);
                Texts.fault("file 0 if " + word + more + " == 1;", 1, 10);
                Texts.fault("file 0 if " + more + word + " == 1;", 1, 10);
                Texts.fault(word + more + " 0;", 1, 0);
                Texts.fault(more + word + " 0;", 1, 0);
            }
            Texts.fault("file 0 if " + word.substring(0, word.length() - 1) + " == 1;", 1, 10);
        }
        Texts.fault("filefile 0;", 1, 0);
        Texts.fault("filefilef 0;", 1, 0);
        Texts.fault("file 0 ifkind == 1;", 1, 7);
        Texts.fault("file 0 if kindkindkind == 1;", 1, 10);
        Texts.fault("file 0 if kind == 1 andand 1 == 1;", 1, 20);
        // eight letters more wind round what has room for eight
        Texts.fault("file 0 if aaaaaaaakind == 1;", 1, 10);
        Texts.fault("file 0 if kindaaaaaaaa == 1;", 1, 10);
        Texts.fault("file 0 if" + "a".repeat(64) + " 1 == 1;", 1, 7);
    }

    // "INTS (1 to 4 digits)"; "A longer one .. is no TOKEN"
    private static void longestInts() {
        Texts.fine("file 5;");
        Texts.fine("file 05;");
        Texts.fine("file 005;");
        Texts.fine("file 0005;");
        Texts.fault("file 00005;", 1, 5);
        Texts.fault("file 000005;", 1, 5);
        Texts.fine("file 0 if 9999 == 9999;");
        Texts.fault("file 0 if 10000 == 9999;", 1, 10);
        Texts.fault("file 0 if 9999 == 10000;", 1, 18);
        Texts.fault("file 0 if 00000 == 9999;", 1, 10);
        Texts.fault("file 9999;", 5, 5);
        Texts.fault("file 99999;", 1, 5);
        Texts.fine("after 0003 if 1 == 1;");
        Texts.fault("after 00003 if 1 == 1;", 1, 6);
        // what wraps to a small number is no INT either: 2 to the 32, and to the 64
        Texts.fault("file 4294967296;", 1, 5);
        Texts.fault("file 18446744073709551616;", 1, 5);
        Texts.holds("9999 == 9998 + 1", true);
        Texts.holds("0009 == 9", true);
        Texts.holds("0100 == 100", true);
        Texts.fine("file 0 if 1234==1234and 5==1;");
    }

    // "SIGNS ; + - * == != < <= ( )", the longest that can be
    private static void longestSigns() {
        Texts.holds("1<=1", true);
        Texts.holds("1<1", false);
        Texts.holds("1<(1)", false);
        Texts.fault("file 0 if 1<==1;", 1, 12 + 1);
        Texts.fault("file 0 if 1===1;", 1, 12 + 1);
        Texts.fault("file 0 if 1!==1;", 1, 12 + 1);
        Texts.fault("file 0 if 1<<=1;", 1, 12);
        Texts.fault("file 0 if 1=1;", 1, 11);
        Texts.fault("file 0 if 1!1;", 1, 11);
        Texts.fault("file 0 if 1!", 1, 11);
        Texts.fault("file 0 if 1=", 1, 11);
        Texts.fault("file 0 if 1=<1;", 1, 11);
        Texts.fault("file 0 if 1>=1;", 1, 11);
        Texts.fault("file 0 if 1=!1;", 1, 11);
        Texts.fault("file 0 if !1 == 1;", 1, 10);
        Texts.fault("file 0 if 1 <> 1;", 1, 13);
        Texts.fault("file 0 if 1 == 1 && 1 == 1;", 1, 17);
        Texts.fault("file 0 if 4 / 2 == 2;", 1, 12);
        Texts.fault("file 0, file 0;", 1, 6);
    }

    // "(a byte; the text's end: its length)": every text that ends too soon
    private static void endOfTheText() {
        String text = "file 0 if (kind+1)*2-mark==3 or place<=1 and bad!=1;";
        for (int length = 1; length < text.length(); length++) {
            String part = text.substring(0, length);
            int cutToken = cutToken(part);
            Texts.fault(part, 1, cutToken < 0 ? length : cutToken);
            Texts.fault(part + "  ", 1, cutToken < 0 ? length + 2 : cutToken);
        }
        Texts.fine(text);
        Texts.fine("");
        Texts.fault("after 0 if 1 == 1; after", 1, 24);
        Texts.fault("after 0 if 1 == 1; after 0", 1, 26);
        Texts.fault("after 0 if 1 == 1; after 0 if", 1, 29);
    }

    /** Where a WORD that is not whole begins, or half a sign; -1 if the last token is a good one. */
    private static int cutToken(String part) {
        int at = part.length();
        while (at > 0 && Character.isLetter(part.charAt(at - 1))) {
            at--;
        }
        String word = part.substring(at);
        if (!word.isEmpty()) {
            return java.util.List.of("file", "if", "or", "and", "kind", "mark", "place", "bad").contains(word) ? -1 : at;
        }
        if (part.endsWith("!") || part.endsWith("=") && !part.endsWith("==") && !part.endsWith("<=") && !part.endsWith("!=")) {
            return part.length() - 1;
        }
        return -1;
    }

    // "2 ROOM: a 401st TOKEN"
    private static void tokens400() {
        // 3 tokens, then 6, then 2 for each of 194 sums: 397
        String sums = "file 0;file 0 if 1<1" + "+1".repeat(194);
        BootHall x = new BootHall();
        x.machine(0, 0, 0);
        x.file(1, -1);
        Check.due("400 tokens", Check.read(x, 0, sums + "+1;"), 0);
        Check.due("two rules", x.count(2), 2);
        Check.due("that answer", x.answer(0, 0, 0), 0);
        Texts.fault(sums + "+1+1;", 2, sums.length() + 3);
        Texts.fault(sums + "+1;file 0;", 2, sums.length() + 3);
        Texts.fault(sums + "+1;\n after", 2, sums.length() + 5);
        // 399 tokens and no end: the text's end is no token
        Texts.fault(sums + "+1", 1, sums.length() + 2);
        Texts.fault(sums + "+1+", 1, sums.length() + 3);
        Texts.fault(sums + "+1+1", 2, sums.length() + 3);
        // blanks behind the 400th are none
        Texts.fine(sums + "+1;" + " ".repeat(100));
        // 398 tokens in nearly all the bytes that there can be
        String wide = "file 0 if 1<1" + "+     1234".repeat(196);
        Texts.fault(wide + "+1;", 2, wide.length() + 2);
        Texts.fine(wide + ";");
        // brackets, words, VARS are tokens like others
        String units = "file 0;file 0 if kind<(1)" + "*(1)".repeat(97);
        Texts.fine(units + ";");
        Texts.fault(units + "+1;", 2, units.length() + 1);
    }

    // "a 21st RULE (at its first TOKEN)"
    private static void rules20() {
        BootHall x = new BootHall();
        x.machine(0, 0, 0);
        x.file(1, -1);
        x.file(1, -1);
        Check.due("20 rules", Check.read(x, 0, "file 0;".repeat(19) + "file 1;"), 0);
        Check.due("twenty", x.count(2), 20);
        Check.due("the 20th counts", x.answer(0, 0, 0), -2);
        Check.due("20 after rules", Check.read(x, 1, "after 0 if 1 == 1;".repeat(19) + "file 1;"), 0);
        Check.due("its file", x.answer(1, 0, 0), 1);
        Texts.fault("file 0;".repeat(20) + "file 0;", 2, 140);
        Texts.fault("file 0;".repeat(20) + "after 0 if 1 == 1;", 2, 140);
        Texts.fault("after 0 if 1 == 1;".repeat(20) + "\tfile", 2, 361);
        Texts.fault("file 0;".repeat(20) + ";", 1, 140);
        Texts.fault("file 0;".repeat(20) + "files", 1, 140);
        Texts.fault("file 0;".repeat(20) + "0", 1, 140);
        Texts.fault("file 0;".repeat(20) + "if", 1, 140);
        Texts.fault("file 0;".repeat(20) + "file ?", 2, 140);
        Texts.fault("file 0;".repeat(19) + "file 0 if 1", 1, 144);
    }

    // "a 7th ( within one another (at it)"
    private static void brackets6() {
        Texts.holds("((((((3)))))) == 3", true);
        Texts.fault("file 0 if (((((((3))))))) == 3;", 2, 16);
        Texts.fault("file 0 if 3 == (((((((3)))))));", 2, 21);
        Texts.fault("file 0 if ((((((1*(3))))))) == 3;", 2, 18);
        // those that are closed count no more: on the other side, in another REL, in another RULE
        Texts.holds("((((((3)))))) == ((((((3)))))) and ((((((1)))))) + ((((((2)))))) == ((((((3))))))", true);
        Texts.fine("file 0 if ((((((3)))))) == 3;".repeat(5));
        Texts.holds("(((((1 + (2)) + (3)) + (4)) + (5)) + (6)) == 21", true);
        Texts.holds("(1)+(2)+(3)+(4)+(5)+(6)+(7)+(8) == 36", true);
        Texts.fault("file 0 if ((((((1)+(2)))+(((1)))+((((1", 2, 36);
        Texts.fault("file 0 if ((((((1", 1, 17);
        Texts.fault("file 0 if (((((((", 2, 16);
        Texts.fault("file 0 if ((((((1(", 1, 17);
        Texts.fault("file 0 if ((((((;", 1, 16);
    }

    // "FAULTS, the first by its place"
    private static void firstByItsPlace() {
        Texts.fault("file ? 0; ?", 1, 5);
        // ROOM ahead of SYNTAX
        Texts.fault("file 0;".repeat(20) + "file ? ; ?", 2, 140);
        Texts.fault("file 0 if ((((((( ?", 2, 16);
        // SYNTAX ahead of ROOM
        Texts.fault("? " + "file 0;".repeat(21), 1, 0);
        Texts.fault("file 0;".repeat(19) + "file 0" + "file 0;", 1, 139);
        Texts.fault("file 0 if kind kind == (((((((1", 1, 15);
        // one ROOM ahead of the other
        Texts.fault("file 0;".repeat(19) + "file 0 if (((((((1))))))) == 1; file 0;", 2, 133 + 16);
        Texts.fault("file 0;".repeat(20) + "file 0 if (((((((1))))))) == 1;", 2, 140);
    }

    // "of one place the least"
    private static void ofOnePlaceTheLeast() {
        // the 401st token is also one with which no text goes on
        String full = "file 0 if 1<1" + "+1".repeat(197);
        Texts.fault(full + ";", 2, full.length());
        String[] others = {"if", "1", "kind", "(", "file", "filefilef", "12345", "?", "=", "<", "=="};
        for (String other : others) {
            Texts.fault(full + " " + other, 1, full.length() + 1);
        }
        String open = "file 0 if 1<(1" + "+1".repeat(196) + "+";
        Texts.fault(open + "(", 2, open.length());
        Texts.fault(open + ")", 1, open.length());
        // the 21st rule's first token, and the 7th bracket's
        Texts.fault("file 0;".repeat(20) + "fil", 1, 140);
        Texts.fault("file 0 if ((((((1 (", 1, 18);
    }

    // "If there is none, likewise: 5 WRONG"
    private static void wrongIfNoOther() {
        Texts.fault("file 6; ?", 1, 8);
        Texts.fault("file 6", 1, 6);
        Texts.fault("file 6; after 4;", 1, 15);
        Texts.fault("file 6;" + "file 0;".repeat(20), 2, 140);
        Texts.fault("file 6; file 0 if (((((((1", 2, 24);
        Texts.fault("file 6; file 7;", 5, 5);
        Texts.fault("file 0; file 7; file 6;", 5, 13);
        Texts.fault("after 9 if 1 == 1; file 9;", 5, 6);
        Texts.fault("file 9; after 9 if 1 == 1;", 5, 5);
        Texts.fault("file 0;".repeat(19) + "file 6;", 5, 138);
        String full = "file 6 if 1<1" + "+1".repeat(196) + ";";
        Texts.fault(full, 5, 5);
        Texts.fault(full + "file 0", 2, full.length() + 5);
    }

    // "at the INT behind file: above 5"
    private static void wrongFile() {
        BootHall x = new BootHall();
        x.machine(0, 0, 0);
        for (int i = 0; i < 6; i++) {
            x.file(1, -1);
        }
        for (int file = 0; file <= 5; file++) {
            Check.due("file " + file, Check.read(x, 0, "file " + file + ";"), 0);
            Check.due("answer", x.answer(0, 0, 0), file);
        }
        for (int file = 6; file <= 12; file++) {
            Texts.fault("file " + file + ";", 5, 5);
            Texts.fault("file 0;  file " + file + " if 1 == 1;", 5, 14);
        }
        Texts.fault("file 0006;", 5, 5);
        // only the INT behind file
        Texts.fine("file 5 if 6 == 9999;");
    }

    // "behind after: above 3"
    private static void wrongAfter() {
        for (int kind = 0; kind <= 3; kind++) {
            BootHall x = new BootHall();
            x.machine(kind == 0 ? 1 : 0, 0, 0);
            x.machine(kind, 0, 0);
            x.file(1, -1);
            x.wake(kind, 40);
            Check.due("after " + kind, Check.read(x, 0, "file 0; after " + kind + " if 1 == 1;"), 0);
            Check.due("waits for it", x.state(0, 43, 0), 1);
            Check.due("no longer", x.state(0, 44, 0), 2);
        }
        for (int kind = 4; kind <= 12; kind++) {
            Texts.fault("after " + kind + " if 1 == 1;", 5, 6);
        }
        Texts.fault("after 0004 if 1 == 1;", 5, 6);
        Texts.fault("after 9999 if 1 == 1;", 5, 6);
        Texts.fine("after 3 if 4 == 9999;");
    }

    // "Ints of 32 bits that wrap"
    private static void intsWrap() {
        Texts.holds(MOST + " + 1 < 0", true);
        Texts.holds(MOST + " + 1 == " + LEAST, true);
        Texts.holds(LEAST + " < 0", true);
        Texts.holds(LEAST + " - 1 == " + MOST, true);
        Texts.holds("0 < " + LEAST + " - 1", true);
        Texts.holds("0 - " + LEAST + " == " + LEAST, true);
        Texts.holds(MOST + " * 2 == 0 - 2", true);
        Texts.holds(MOST + " * " + MOST + " == 1", true);
        Texts.holds(LEAST + " * 2 == 0", true);
        Texts.holds(LEAST + " + " + LEAST + " == 0", true);
        Texts.holds("256 * 256 * 256 * 256 == 0", true);
        Texts.holds("9999 * 9999 * 9999 * 9999 == 9999 * 9999 * 9999 * 9999", true);
        // 999,700,029,999, which is 233 times 2 to the 32 less 1,027,349,969
        Texts.holds("9999 * 9999 * 9999 < 0", true);
        Texts.holds("9999 * 9999 * 9999 == 0 - (1027 * 1000 * 1000 + 349 * 1000 + 969)", true);
    }

    /** A comparison by a difference that wraps would be wrong here. */
    private static void comparesWithoutWrap() {
        Texts.holds(LEAST + " < " + MOST, true);
        Texts.holds(MOST + " < " + LEAST, false);
        Texts.holds(LEAST + " <= " + MOST, true);
        Texts.holds(MOST + " <= " + LEAST, false);
        Texts.holds(LEAST + " == " + MOST, false);
        Texts.holds(LEAST + " != " + MOST, true);
        Texts.holds(LEAST + " < 1", true);
        Texts.holds("0 - 2 < " + MOST, true);
        Texts.holds(MOST + " < 0 - 2", false);
        Texts.holds(MOST + " <= " + MOST, true);
        Texts.holds(MOST + " < " + MOST, false);
        Texts.holds("1 <= 1 - 1", false);
        Texts.holds("1 - 1 <= 1", true);
    }

    // "E: PART {('+' | '-') PART}. PART: UNIT {'*' UNIT}.", "COND: ALL {'or' ALL}. ALL: REL {'and' REL}."
    private static void whatBindsFirst() {
        String[] signs = {"+", "-", "*"};
        for (String p : signs) {
            for (String q : signs) {
                int value = q.equals("*") && !p.equals("*") ? math(7, p, math(3, q, 2)) : math(math(7, p, 3), q, 2);
                String sum = "7 " + p + " 3 " + q + " 2";
                for (int off = -1; off <= 1; off++) {
                    String other = "0 + " + (value + off + 10) + " - 10";
                    relations(sum, value, other, value + off);
                    relations(other, value + off, sum, value);
                }
            }
        }
        String[] rels = {"%d == 1", "0 + %d != 0", "0 < %d", "1 <= %d"};
        for (String rel : rels) {
            for (int bits = 0; bits < 8; bits++) {
                boolean a = (bits & 1) != 0;
                boolean b = (bits & 2) != 0;
                boolean c = (bits & 4) != 0;
                String[] each = {rel.formatted(a ? 1 : 0), rel.formatted(b ? 1 : 0), rel.formatted(c ? 1 : 0)};
                Texts.holds(each[0] + " or " + each[1] + " and " + each[2], a || b && c);
                Texts.holds(each[0] + " and " + each[1] + " or " + each[2], a && b || c);
                Texts.holds(each[0] + " and " + each[1] + " and " + each[2], a && b && c);
                Texts.holds(each[0] + " or " + each[1] + " or " + each[2], a || b || c);
                Texts.holds("1 == 1 and " + each[0] + " and 1 != 2 and " + each[1] + " and 1 < 2 or 2 < 1 and " + each[2], a && b);
            }
        }
    }

    private static void relations(String left, int a, String right, int b) {
        Texts.holds(left + " == " + right, a == b);
        Texts.holds(left + " != " + right, a != b);
        Texts.holds(left + " < " + right, a < b);
        Texts.holds(left + " <= " + right, a <= b);
    }

    private static int math(int a, String sign, int b) {
        return sign.equals("+") ? a + b : sign.equals("-") ? a - b : a * b;
    }

    // "VARS: of a MACHINE KIND, PLACE, MARK, its TRIES, BAD, how often it BEGUN, the TICK"
    private static void varsAtTheirLimits() {
        BootHall x = new BootHall();
        x.machine(3, 7, 99);
        x.file(12, -1);
        Check.read(x, 1, "file 0 if tries == 4 and tick == 30;");
        for (int tick = 31; tick < 34; tick++) {
            x.spoil(0, 0, tick);
        }
        x.cut(0, 100);
        Check.read(x, 0, "file 0 if tick == 299;");
        Check.due("TICK 298", x.answer(0, 0, 298), -1);
        Check.due("TICK 299", x.answer(0, 0, 299), 0);
        Check.read(x, 0, "file 0 if tick == 0;");
        Check.due("TICK 1", x.answer(0, 0, 1), -1);
        Check.due("TICK 0", x.answer(0, 0, 0), 0);
        Check.read(x, 0, "file 0 if tries == 4 and 30 < tick;");
        Check.due("TRIES 4", x.answer(0, 0, 50), 0);
        Check.due("TRIES of one that is OFF", x.answer(0, 0, 100), -1);
        Check.read(x, 0, "file 0 if bad == 3 and tick < 300;");
        // A text that answers in tick 0 would spoil the run: so it must not.
        Check.due("BAD 2", x.answer(0, 0, 32), -1);
        Check.due("BAD 3", x.answer(0, 0, 33), 0);
        Check.due("BAD of one that is OFF", x.answer(0, 0, 100), -1);
        Check.read(x, 0, "file 0 if begun == 2 and 200 < tick;");
        Check.due("BEGUN 2", x.answer(0, 0, 201), 0);
        Check.read(x, 0, "file 0 if begun == 1 and 90 < tick;");
        Check.due("BEGUN 1 when OFF", x.answer(0, 0, 102), 0);
        Check.due("BEGUN 2 then", x.answer(0, 0, 103), -1);
        x.wake(3, 5);
        Check.read(x, 0, "file 0 if begun == 0;");
        Check.due("BEGUN 0", x.answer(0, 0, 4), 0);
        Check.due("BEGUN 1", x.answer(0, 0, 5), -1);
    }

    // "RULES that hold (or have no COND)"
    private static void noConditionHolds() {
        BootHall x = Halls.simple(1, 1);
        x.file(1, -1);
        Check.due("none needed", x.answer(0, 0, 0), 0);
        Check.read(x, 0, "file 0; file 1 if 1 == 2;");
        Check.due("the one behind has one, which does not hold", x.answer(0, 0, 0), 0);
        Check.read(x, 0, "file 0 if 1 == 2; file 1;");
        Check.due("the one ahead has one, which does not hold", x.answer(0, 0, 0), 1);
        Check.read(x, 0, "file 0 if 1 == 2 or 1 == 1; file 1 if 1 == 1 and 1 == 2;");
        Check.due("or, and", x.answer(0, 0, 0), 0);
    }
}
