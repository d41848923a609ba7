import java.io.IOException;
import java.lang.reflect.Constructor;
import java.lang.reflect.Field;
import java.lang.reflect.Method;
import java.lang.reflect.Modifier;
import java.nio.file.Files;
import java.nio.file.Path;
import java.util.Arrays;
import java.util.Set;
import java.util.TreeSet;

/** The public face, and rules of LANGUAGE.md that reflection or the text can show. */
public final class EventPatternsFace {
    private static final String[] FACE = {
        "public static final int NONE",
        "public EventPatterns()",
        "public int event(int,int,int) IllegalArgumentException UnsupportedOperationException",
        "public void clear()",
        "public void pattern(int,int) IllegalArgumentException",
        "public int step(int,int,int,boolean) IllegalArgumentException UnsupportedOperationException",
        "public int count() IllegalStateException",
        "public int latest() IllegalStateException",
        "public int length(int) IllegalStateException IndexOutOfBoundsException",
        "public int match(int,int,int) IllegalStateException IndexOutOfBoundsException"
                + " IllegalArgumentException",
        "public int events()",
    };

    /** Rules 2, 4, 6 and 13: words that the class has no need of. */
    private static final String[] RULED_OUT = {
        "import ", "package ", "->", "::", "try ", "catch", "finally", "synchronized", "assert ",
        "System.", "Exact(",
    };

    private static int wrong = 0;

    public static void main(String[] args) throws IOException {
        members();
        names();
        text();
        System.out.println(wrong == 0 ? "the face is as due" : wrong + " things are not as due");
        if (wrong != 0) {
            System.exit(1);
        }
    }

    private static void members() {
        int of = EventPatterns.class.getModifiers();
        hold("the class is public and final", Modifier.isPublic(of) && Modifier.isFinal(of));
        Set<String> found = new TreeSet<>();
        for (Field field : EventPatterns.class.getDeclaredFields()) {
            if (!Modifier.isPrivate(field.getModifiers())) {
                found.add(Modifier.toString(field.getModifiers()) + " " + field.getType() + " " + field.getName());
            }
            hold("static and not final: " + field.getName(),
                    !Modifier.isStatic(field.getModifiers()) || Modifier.isFinal(field.getModifiers()));
        }
        for (Constructor<?> made : EventPatterns.class.getDeclaredConstructors()) {
            found.add(Modifier.toString(made.getModifiers()) + " EventPatterns"
                    + taken(made.getParameterTypes()) + thrown(made.getExceptionTypes()));
        }
        for (Method method : EventPatterns.class.getDeclaredMethods()) {
            if (!Modifier.isPrivate(method.getModifiers())) {
                found.add(Modifier.toString(method.getModifiers()) + " " + method.getReturnType() + " "
                        + method.getName() + taken(method.getParameterTypes())
                        + thrown(method.getExceptionTypes()));
            }
        }
        Set<String> due = new TreeSet<>(Arrays.asList(FACE));
        hold("the face is " + found + ", due is " + due, found.equals(due));
    }

    private static String taken(Class<?>[] types) {
        return Arrays.stream(types).map(Class::getSimpleName).toList().toString()
                .replace('[', '(').replace(']', ')').replace(" ", "");
    }

    private static String thrown(Class<?>[] types) {
        StringBuilder text = new StringBuilder();
        for (Class<?> type : types) {
            text.append(' ').append(type.getSimpleName());
        }
        return text.toString();
    }

    private static void names() {
        Set<String> seen = new TreeSet<>();
        for (Method method : EventPatterns.class.getDeclaredMethods()) {
            hold("two methods are named " + method.getName(), seen.add(method.getName()));
            hold("over seven parameters: " + method.getName(), method.getParameterCount() <= 7);
        }
    }

    private static void text() throws IOException {
        String text = Files.readString(Path.of("src/main/java/EventPatterns.java"));
        String code = text.replaceAll("(?s)/\\*.*?\\*/", "").replaceAll("//[^\n]*", "");
        for (String word : RULED_OUT) {
            hold("the text has '" + word + "'", !code.contains(word));
        }
    }

    private static void hold(String what, boolean holds) {
        if (!holds) {
            wrong++;
            System.out.println("not as due: " + what);
        }
    }
}
