import java.io.IOException;
import java.lang.reflect.Constructor;
import java.lang.reflect.Field;
import java.lang.reflect.Method;
import java.lang.reflect.Modifier;
import java.nio.file.Files;
import java.nio.file.Path;
import java.util.Set;
import java.util.TreeSet;
import java.util.regex.Matcher;
import java.util.regex.Pattern;

/** The face of the class, and those rules of LANGUAGE.md that are seen by members, words and one state that no call reaches. */
public final class LanguageTest {
    private static int wrong;

    private static void due(String what, Object got, Object want) {
        if (!got.equals(want)) {
            wrong++;
            System.out.println(what + " is " + got + ", due is " + want);
        }
    }

    private static Set<String> face() {
        Set<String> face = new TreeSet<>();
        for (Method method : HostileHouses.class.getDeclaredMethods()) {
            if (!Modifier.isPrivate(method.getModifiers()) && !method.isSynthetic()) {
                face.add(method.toString());
            }
        }
        for (Field field : HostileHouses.class.getDeclaredFields()) {
            if (!Modifier.isPrivate(field.getModifiers()) && !field.isSynthetic()) {
                face.add(field.toString());
            }
        }
        for (Constructor<?> constructor : HostileHouses.class.getDeclaredConstructors()) {
            face.add(constructor.toString());
        }
        return face;
    }

    private static Set<String> faceOfTheDocument() {
        Set<String> face = new TreeSet<>();
        face.add("public HostileHouses()");
        String[] methods = {"set(int,int)", "begin()", "move(int)", "play(int)", "read()", "house(int,int)",
            "count(int)", "last(int)", "moved(int)", "ifMove(int,int)", "worth(int)", "best(int)", "movesLeft(int)",
            "put(long)", "wipe()", "fault()", "undo()", "save(int)", "restore(int)"};
        for (String method : methods) {
            face.add("public int HostileHouses." + method);
        }
        String[] constants = {"NO_SUCH", "BAD_VALUE", "BAD_TEXT", "TOO_MANY", "NOT_POSSIBLE", "NONE", "SEEDS",
            "VISITS", "LAPS", "TOLL"};
        for (String constant : constants) {
            face.add("public static final int HostileHouses." + constant);
        }
        return face;
    }

    private static void members() {
        due("the face", face(), faceOfTheDocument());
        due("final", Modifier.isFinal(HostileHouses.class.getModifiers()), true);
        Set<String> publicNames = new TreeSet<>();
        for (Method method : HostileHouses.class.getMethods()) {
            publicNames.add(method.getName());
        }
        for (Class<?> inside : HostileHouses.class.getDeclaredClasses()) {
            due(inside + " static", Modifier.isStatic(inside.getModifiers()), true);
            due(inside + " public", Modifier.isPublic(inside.getModifiers()), false);
            for (Method method : inside.getDeclaredMethods()) {
                due(method + " has the name of a public one", publicNames.contains(method.getName()), false);
                due(method + " has at most seven parameters", method.getParameterCount() <= 7, true);
            }
            for (Field field : inside.getDeclaredFields()) {
                due(field + " static and not final", staticOnly(field), false);
            }
        }
        for (Field field : HostileHouses.class.getDeclaredFields()) {
            due(field + " static and not final", staticOnly(field), false);
        }
    }

    private static boolean staticOnly(Field field) {
        return Modifier.isStatic(field.getModifiers()) && !Modifier.isFinal(field.getModifiers());
    }

    private static void words() throws IOException {
        String source = Files.readString(Path.of("src/main/java/HostileHouses.java"));
        String code = source.replaceAll("(?s)/\\*.*?\\*/", "").replaceAll("//[^\n]*", "");
        Pattern ruledOut = Pattern.compile("\\b(package|import|throws?|try|catch|finally|synchronized|assert|native"
            + "|volatile|transient|hashCode|toString|protected|System\\.(?!arraycopy)\\w+|Thread|Random|\\w+Exact)\\b"
            + "|->|::|[^\\x00-\\x7F]");
        Matcher matcher = ruledOut.matcher(code);
        while (matcher.find()) {
            due("what LANGUAGE.md rules out: " + matcher.group(), 1, 0);
        }
    }

    /** Sowing ends by its own lines: a toll below 0, which no call can set, would let the hand grow. */
    private static void tollBelowZero() throws ReflectiveOperationException {
        HostileHouses game = Checks.withHostileHouses(6, 1, 0);
        Field now = HostileHouses.class.getDeclaredField("now");
        now.setAccessible(true);
        Field settings = now.get(game).getClass().getDeclaredField("settings");
        settings.setAccessible(true);
        ((int[]) settings.get(now.get(game)))[HostileHouses.TOLL] = -1;
        due("TOLL -1: move(4)", game.move(4), 1);
        due("TOLL -1: last(2)", game.last(2), 10);
        due("TOLL -1: last(4)", game.last(4), 0);
    }

    public static void main(String[] args) throws IOException, ReflectiveOperationException {
        members();
        words();
        tollBelowZero();
        System.out.println(wrong == 0 ? "the face and the language are as due" : wrong + " things are not as due");
        if (wrong != 0) {
            System.exit(1);
        }
    }
}
