import java.io.IOException;
import java.lang.reflect.Constructor;
import java.lang.reflect.Field;
import java.lang.reflect.Method;
import java.lang.reflect.Modifier;
import java.nio.file.Files;
import java.nio.file.Path;
import java.util.Set;
import java.util.TreeSet;
import java.util.regex.Matcher;
import java.util.regex.Pattern;

/** The public face, as the document gives it, and the rules of the language that can be seen from outside. */
public final class FaceTest {
    private static final Check check = new Check();
    private static final Set<String> FACE = Set.of(
            "once(long,int)", "often(long,long,int,int)", "loose(long,long,int)",
            "chained(int,long,long,int)", "resting(long,long,int,int)", "drop(int)", "shift(int,long)",
            "chain(int,int)", "rest(int)", "wake(int)", "about(int,int)", "isOf(int,int)", "go(long)",
            "went(int,int)", "next()", "fewest()", "settle()", "lies(int,int)", "bits(int)",
            "many(int,int)", "in(int,int,int)", "now()", "undo()", "count(int)");
    private static final Set<String> CONSTANTS = Set.of("BAD", "NO", "FULL", "RING", "NONE", "MOST");

    public static void main(String[] args) throws IOException {
        constants();
        members();
        nested();
        words();
        check.end();
    }

    private static void constants() {
        check.promise("constants");
        check.is(DueWheels.BAD, Check.BAD);
        check.is(DueWheels.NO, Check.NO);
        check.is(DueWheels.FULL, Check.FULL);
        check.is(DueWheels.RING, Check.RING);
        check.is(DueWheels.NONE, Check.NONE);
        check.is(DueWheels.MOST, Check.MOST);
    }

    private static void members() {
        check.promise("face");
        Class<?> type = DueWheels.class;
        check.is(type.getModifiers(), Modifier.PUBLIC | Modifier.FINAL);
        Set<String> found = new TreeSet<>();
        for (Method m : type.getDeclaredMethods()) {
            if (!Modifier.isPrivate(m.getModifiers())) {
                String said = m.toGenericString();
                found.add(said.substring(said.indexOf("DueWheels.") + 10));
                check.holds(said, said.startsWith("public long DueWheels."));
            }
        }
        check.holds("methods are " + found, found.equals(new TreeSet<>(FACE)));
        Constructor<?>[] made = type.getDeclaredConstructors();
        check.is(made.length, 1);
        check.holds("constructor", made[0].toString().equals("public DueWheels()"));
        for (Field f : type.getDeclaredFields()) {
            boolean constant = CONSTANTS.contains(f.getName());
            check.holds(f.toString(), constant ? f.toString().startsWith("public static final long ")
                    : Modifier.isPrivate(f.getModifiers()));
        }
    }

    private static void nested() {
        check.promise("classes inside");
        Class<?>[] inside = DueWheels.class.getDeclaredClasses();
        check.holds("some twelve at most", inside.length <= 11);
        for (Class<?> c : inside) {
            check.holds(c + " is static", Modifier.isStatic(c.getModifiers()));
            check.holds(c + " has some twenty fields at most", c.getDeclaredFields().length <= 20);
            for (Field f : c.getDeclaredFields()) {
                check.holds(f + " holds no state of the class", !Modifier.isStatic(f.getModifiers()));
            }
            for (Method m : c.getDeclaredMethods()) {
                check.holds(m + " has a name of its own", FACE.stream().noneMatch(
                        name -> name.startsWith(m.getName() + "(")));
                check.holds(m + " takes seven at most", m.getParameterCount() <= 7);
            }
        }
    }

    private static void words() throws IOException {
        check.promise("words that the language leaves out");
        String text = Files.readString(Path.of("src/main/java/DueWheels.java"))
                .replaceAll("(?s)/\\*.*?\\*/", "").replaceAll("//.*", "");
        Matcher word = Pattern.compile("\\b(throw|throws|try|catch|synchronized|assert|import|package|"
                + "equals|hashCode|toString|System\\.(?!arraycopy)\\w+|\\w+Exact)\\b|->|::").matcher(text);
        while (word.find()) {
            check.holds("there is " + word.group(), false);
        }
    }
}
