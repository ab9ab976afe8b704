import java.io.IOException;
import java.lang.reflect.Constructor;
import java.lang.reflect.Field;
import java.lang.reflect.Method;
import java.lang.reflect.Modifier;
import java.nio.file.Files;
import java.nio.file.Path;
import java.util.Arrays;
import java.util.TreeSet;
import java.util.regex.Matcher;
import java.util.regex.Pattern;

/** The face of the class, and those rules of LANGUAGE.md that can be seen from outside. */
final class RulesTest {
    private static final String[] FACE = {"write(int)", "wipe()", "fault()", "lay()", "command(int,int)",
        "shape(int,int,int)", "target(int,int)", "load(int,int)", "couple(int)", "tick(int)", "undo()",
        "crane(int,int)", "stepOf(int,int,int)", "stop(int)", "half(int)", "spot(int,int,int)",
        "been(int,int,int)", "ahead(int,int,int)", "quiet(int)", "best(int,int,int)", "count(int)"};

    private RulesTest() {
    }

    static void runAll(String source) {
        constants();
        methods();
        fields();
        classesInside();
        words(source);
    }

    private static void constants() {
        Check.due("BAD", SwingCranes.BAD, -1);
        Check.due("NO", SwingCranes.NO, -2);
        Check.due("FULL", SwingCranes.FULL, -3);
        Check.due("NONE", SwingCranes.NONE, -4);
        Check.due("ZERO", SwingCranes.ZERO, 100000);
    }

    private static String faceOf(Method m) {
        StringBuilder face = new StringBuilder(m.getName()).append('(');
        for (Class<?> type : m.getParameterTypes()) {
            face.append(face.charAt(face.length() - 1) == '(' ? "" : ",").append(type.getName());
        }
        return face.append(')').toString();
    }

    private static void methods() {
        TreeSet<String> open = new TreeSet<>();
        TreeSet<String> openNames = new TreeSet<>();
        for (Method m : SwingCranes.class.getDeclaredMethods()) {
            if (!Modifier.isPrivate(m.getModifiers())) {
                open.add(faceOf(m));
                openNames.add(m.getName());
                Check.holds(m + " is public and of the object", m.getModifiers() == Modifier.PUBLIC);
                Check.holds(m + " answers an int", m.getReturnType() == int.class);
            }
        }
        Check.holds("the face " + open, open.equals(new TreeSet<>(Arrays.asList(FACE))));
        for (Method m : SwingCranes.class.getDeclaredMethods()) {
            boolean isPrivate = Modifier.isPrivate(m.getModifiers());
            Check.holds(m + " bears no public one's name", !isPrivate || !openNames.contains(m.getName()));
        }
        for (Class<?> inside : SwingCranes.class.getDeclaredClasses()) {
            for (Method m : inside.getDeclaredMethods()) {
                Check.holds(m + " bears no public one's name", !openNames.contains(m.getName()));
            }
        }
        Constructor<?>[] made = SwingCranes.class.getDeclaredConstructors();
        Check.due("constructors", made.length, 1);
        Check.holds("a public one, of nothing",
            made[0].getModifiers() == Modifier.PUBLIC && made[0].getParameterCount() == 0);
        Check.holds("the class is final", Modifier.isFinal(SwingCranes.class.getModifiers()));
    }

    private static void fields() {
        TreeSet<String> open = new TreeSet<>();
        int ofObject = 0;
        for (Field f : SwingCranes.class.getDeclaredFields()) {
            int is = f.getModifiers();
            if (!Modifier.isPrivate(is)) {
                open.add(f.getName());
            }
            Check.holds(f + ": static is final", !Modifier.isStatic(is) || Modifier.isFinal(is));
            ofObject += Modifier.isStatic(is) ? 0 : 1;
        }
        Check.holds("open fields " + open, open.equals(new TreeSet<>(Arrays.asList("BAD", "NO", "FULL", "NONE", "ZERO"))));
        Check.holds("at most twenty fields", ofObject <= 20);
    }

    private static void classesInside() {
        Class<?>[] inside = SwingCranes.class.getDeclaredClasses();
        Check.holds("at most twelve classes", inside.length <= 11);
        for (Class<?> c : inside) {
            Check.holds(c + " is private and static",
                Modifier.isPrivate(c.getModifiers()) && Modifier.isStatic(c.getModifiers()));
            Check.holds(c + ": at most twenty fields", c.getDeclaredFields().length <= 20);
        }
    }

    private static void words(String source) {
        String text;
        try {
            text = Files.readString(Path.of(source));
        } catch (IOException e) {
            Check.holds("the source " + source + " can be read", false);
            return;
        }
        String bare = text.replaceAll("(?s)/\\*.*?\\*/", " ").replaceAll("//[^\n]*", " ");
        Matcher m = Pattern.compile("\\b(throw|throws|try|catch|finally|synchronized|assert|import|package|instanceof"
            + "|equals|hashCode|toString|lambda|var|record|Object|System|Thread|Random|Exact)\\b|->|::").matcher(bare);
        while (m.find()) {
            Check.holds("the source holds no " + m.group(), false);
        }
        Check.holds("the source holds ASCII alone", text.chars().allMatch(c -> c < 127));
        lengths(bare);
    }

    /** By the indents that the source keeps to: a method's head and its last brace stand alike. */
    private static void lengths(String bare) {
        String[] lines = bare.split("\n");
        for (int i = 0; i < lines.length; i++) {
            if (!lines[i].matches("( {4}| {8})[a-zA-Z].*\\) \\{") || lines[i].trim().matches("(if|for|while|switch)\\b.*")) {
                continue;
            }
            String end = lines[i].substring(0, lines[i].length() - lines[i].stripLeading().length()) + "}";
            int last = i;
            while (last < lines.length - 1 && !lines[last].equals(end)) {
                last++;
            }
            Check.holds("a short method: " + lines[i].trim(), last - i < 60);
        }
    }
}
