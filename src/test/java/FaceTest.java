import java.lang.reflect.Constructor;
import java.lang.reflect.Field;
import java.lang.reflect.Method;
import java.lang.reflect.Modifier;
import java.nio.file.Files;
import java.nio.file.Path;
import java.util.TreeSet;

/** The public face, promise 1, and those rules of LANGUAGE.md that the source's words show. */
final class FaceTest {
    private static final String[] METHODS = {
        "int feed(int,int,int,int,int)", "int back(int)", "int read(int)", "int place()", "int machine(int,int,int)",
        "int file(int,int)", "boolean width(int)", "boolean wake(int,int)", "int lose(int,int)", "int spoil(int,int,int)",
        "int down(int,int,int)", "int cut(int,int)", "int answer(int,int,int)", "int state(int,int,int)", "int sends(int)",
        "int sent(int,int)", "int ends()", "int up()", "int log(int,int)", "int plan(int)", "int wakes(int)", "int count(int)"};

    public static void main(String[] args) throws Exception {
        face();
        classesInside();
        newObject();
        source();
        Check.finish();
    }

    private static void face() {
        Class<?> type = BootHall.class;
        Check.due("public final class", Modifier.isPublic(type.getModifiers()) && Modifier.isFinal(type.getModifiers()), true);
        TreeSet<String> open = new TreeSet<>();
        for (Method m : type.getDeclaredMethods()) {
            if (!Modifier.isPrivate(m.getModifiers())) {
                StringBuilder text = new StringBuilder(m.getReturnType() + " " + m.getName() + "(");
                for (int i = 0; i < m.getParameterCount(); i++) {
                    text.append(i == 0 ? "" : ",").append(m.getParameterTypes()[i]);
                }
                open.add(text + ")");
                Check.due(m + " is public and no static one", m.getModifiers(), Modifier.PUBLIC);
            }
        }
        TreeSet<String> asked = new TreeSet<>(java.util.Arrays.asList(METHODS));
        Check.due("methods " + open, open.equals(asked), true);
        for (Field f : type.getDeclaredFields()) {
            if (!Modifier.isPrivate(f.getModifiers())) {
                Check.due("open field " + f, f.getName().equals("NONE"), true);
            }
        }
        Constructor<?>[] constructors = type.getDeclaredConstructors();
        Check.due("constructors", constructors.length, 1);
        Check.due("its parameters", constructors[0].getParameterCount(), 0);
        Check.due("NONE", BootHall.NONE, -1);
    }

    // LANGUAGE.md, rules 1, 2, 5 and 11, as far as the compiled classes show them
    private static void classesInside() {
        Class<?>[] inside = BootHall.class.getDeclaredClasses();
        Check.due("at most twelve classes", inside.length < 12, true);
        looksWell(BootHall.class);
        for (Class<?> type : inside) {
            Check.due(type + " is static", Modifier.isStatic(type.getModifiers()), true);
            Check.due(type + " is not open", Modifier.isPublic(type.getModifiers()) || Modifier.isProtected(type.getModifiers()), false);
            Check.due(type + " has none inside", type.getDeclaredClasses().length, 0);
            looksWell(type);
        }
    }

    private static void looksWell(Class<?> type) {
        int fields = 0;
        for (Field f : type.getDeclaredFields()) {
            if (Modifier.isStatic(f.getModifiers())) {
                Check.due(f + " is final", Modifier.isFinal(f.getModifiers()), true);
            } else {
                fields++;
            }
        }
        Check.due(type + " has at most twenty fields", fields <= 20, true);
        for (Method m : type.getDeclaredMethods()) {
            Check.due(m + " has at most seven parameters", m.getParameterCount() <= 7, true);
            if (Modifier.isPrivate(m.getModifiers())) {
                Check.due(m + " bears a name of its own", java.util.Arrays.stream(METHODS).anyMatch(face -> face.contains(" " + m.getName() + "(")), false);
            }
        }
    }

    private static void newObject() {
        BootHall x = new BootHall();
        for (int what = 0; what <= 7; what++) {
            Check.due("new count(" + what + ")", x.count(what), what == 5 ? 2 : 0);
        }
        for (int kind = 0; kind < 4; kind++) {
            Check.due("new wakes(" + kind + ")", x.wakes(kind), 0);
        }
        Check.due("new place()", x.place(), -1);
        Check.due("new ends()", x.ends(), -1);
        Check.due("new up()", x.up(), 0);
        Check.due("new state", x.state(0, 0, 0), -1000000);
        Check.due("new answer", x.answer(0, 0, 0), -1);
        Check.due("new log", x.log(0, 0), -1);
        Check.due("new sends", x.sends(0), 0);
        Check.due("new sent", x.sent(0, 0), -1);
        Check.due("new lose", x.lose(0, 0), -1);
        Check.due("new spoil", x.spoil(0, 0, 0), -1);
        Check.due("new cut", x.cut(0, 0), -1);
    }

    private static void source() throws Exception {
        String text = Files.readString(Path.of("src/main/java/BootHall.java"));
        text = text.replaceAll("(?s)/\\*.*?\\*/", " ").replaceAll("//[^\n]*", " ");
        String[] words = {"throw", "try", "catch", "synchronized", "assert", "package", "protected", "volatile", "Object", "Exact"};
        for (String word : words) {
            Check.due("uses of " + word, text.split("\\b" + word + "\\b", -1).length - 1, 0);
        }
        Check.due("lambdas", text.contains("->"), false);
        Check.due("method references", text.contains("::"), false);
        Check.due("imports beside java.util.Arrays", text.replace("import java.util.Arrays;", "").contains("import"), false);
    }
}
