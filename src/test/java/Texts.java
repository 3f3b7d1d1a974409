/** What a text must be answered with: its fault and place, or whether its condition holds. */
final class Texts {
    private Texts() {
    }

    static void fault(String text, int number, int place) {
        BootHall x = new BootHall();
        Check.due("read of '" + text + "'", Check.read(x, 0, text), number);
        Check.due("place of '" + text + "'", x.place(), place);
        Check.due("tape behind '" + text + "'", x.count(7), 0);
        if (number != 0) {
            Check.due("rules behind '" + text + "'", x.count(2), 0);
        }
    }

    static void fine(String text) {
        fault(text, 0, -1);
    }

    /** Of a machine of kind 3, place 7, mark 99 at the end of tick 7. */
    static void holds(String condition, boolean want) {
        BootHall x = new BootHall();
        x.file(1, -1);
        x.machine(3, 7, 99);
        Check.due("read of " + condition, Check.read(x, 0, "file 0 if " + condition + ";"), 0);
        Check.due(condition, x.answer(0, 0, 7), want ? 0 : -1);
    }
}
