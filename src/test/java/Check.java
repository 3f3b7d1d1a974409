/** Counts the answers that are not the ones due; each test ends by finish(). */
final class Check {
    private static int wrong = 0;
    private static int asked = 0;

    private Check() {
    }

    static void due(String call, long got, long want) {
        asked++;
        if (got != want) {
            wrong++;
            if (wrong <= 50) {
                System.out.println(call + " answered " + got + ", due is " + want);
            }
        }
    }

    static void due(String call, boolean got, boolean want) {
        due(call, got ? 1 : 0, want ? 1 : 0);
    }

    static void due(String call, int[] got, int... want) {
        due(call + " (how many)", got.length, want.length);
        for (int i = 0; i < Math.min(got.length, want.length); i++) {
            due(call + " [" + i + "]", got[i], want[i]);
        }
    }

    static void finish() {
        System.out.println(asked + " answers, " + wrong + " not as due");
        if (wrong != 0) {
            System.exit(1);
        }
    }

    /** Brings a text onto the tape: whole twenties, of which the blanks at the end are taken back. */
    static void type(BootHall hall, String text) {
        for (int at = 0; at < text.length(); at += 20) {
            hall.feed(word(text, at), word(text, at + 4), word(text, at + 8), word(text, at + 12), word(text, at + 16));
        }
        hall.back((20 - text.length() % 20) % 20);
    }

    static int read(BootHall hall, int keeper, String text) {
        type(hall, text);
        return hall.read(keeper);
    }

    static int word(String text, int at) {
        int word = 0;
        for (int i = at; i < at + 4; i++) {
            word = word << 8 | (i < text.length() ? text.charAt(i) & 255 : 32);
        }
        return word;
    }
}
