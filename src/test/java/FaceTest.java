import java.io.IOException;
import java.lang.reflect.Field;
import java.lang.reflect.Method;
import java.lang.reflect.Modifier;
import java.nio.file.Files;
import java.nio.file.Path;
import java.util.Arrays;
import java.util.Set;
import java.util.TreeSet;
import java.util.regex.Matcher;
import java.util.regex.Pattern;

/** The public face is the document's, no more and no less; the source keeps to the plain part of Java. */
public final class FaceTest {
    private static final Due due = new Due();
    private static final String[] METHODS = {"int cups 2", "int watcher 4", "int say 1", "int wipe 0", "int fault 0",
        "int judge 1", "int behind 2", "int table 1", "int pea 1", "int first 1", "int done 0", "int changes 2",
        "int by 3", "int rank 1", "int row 1", "int weigh 3", "int forget 0", "int cases 1", "int leaves 2",
        "int squares 2", "long lot 4", "int year 3", "int image 1", "int restore 1", "int told 1"};

    public static void main(String[] args) throws IOException {
        constants();
        members();
        source();
        due.end();
    }

    private static void constants() {
        due.same("UNKNOWN", PeaCups.UNKNOWN, -1);
        due.same("OUTSIDE", PeaCups.OUTSIDE, -2);
        due.same("STATE", PeaCups.STATE, -3);
        due.same("FULL", PeaCups.FULL, -4);
        due.same("NO", PeaCups.NO, -5);
        due.same("NONE", PeaCups.NONE, -6);
        due.same("GONE", PeaCups.GONE, -1000000000000000000L);
    }

    private static void members() {
        int modifiers = PeaCups.class.getModifiers();
        due.holds("public and final", Modifier.isPublic(modifiers) && Modifier.isFinal(modifiers));
        due.same("constructors", PeaCups.class.getDeclaredConstructors().length, 1);
        due.same("public constructors without numbers", PeaCups.class.getConstructors()[0].getParameterCount(), 0);
        Set<String> found = new TreeSet<>();
        Set<String> hidden = new TreeSet<>();
        for (Method m : PeaCups.class.getDeclaredMethods()) {
            due.holds(m + " is public or private", (m.getModifiers() & (Modifier.PUBLIC | Modifier.PRIVATE)) != 0);
            if (Modifier.isPublic(m.getModifiers())) {
                found.add(m.getReturnType() + " " + m.getName() + " " + m.getParameterCount());
                due.holds(m + " is of objects", !Modifier.isStatic(m.getModifiers()));
                for (Class<?> number : m.getParameterTypes()) {
                    due.holds(m + " takes ints", number == int.class);
                }
            } else {
                hidden.add(m.getName());
            }
        }
        due.holds("the methods: " + found, found.equals(new TreeSet<>(Arrays.asList(METHODS))));
        for (String method : METHODS) {
            due.holds("no private " + method, !hidden.contains(method.split(" ")[1]));
        }
        int constants = 0;
        for (Field f : PeaCups.class.getDeclaredFields()) {
            due.holds(f + " is public or private", (f.getModifiers() & (Modifier.PUBLIC | Modifier.PRIVATE)) != 0);
            if (Modifier.isPublic(f.getModifiers())) {
                constants++;
                due.holds(f + " is a constant", Modifier.isStatic(f.getModifiers()) && Modifier.isFinal(f.getModifiers()));
                due.holds(f + " has its type", f.getType() == (f.getName().equals("GONE") ? long.class : int.class));
            }
        }
        due.same("public constants", constants, 7);
        for (Class<?> inside : PeaCups.class.getDeclaredClasses()) {
            due.holds(inside + " is static", Modifier.isStatic(inside.getModifiers()));
            due.holds(inside + " is not in the face",
                (inside.getModifiers() & (Modifier.PUBLIC | Modifier.PROTECTED)) == 0);
            for (Method m : inside.getDeclaredMethods()) {
                for (String method : METHODS) {
                    due.holds(m + " bears a name of the face", !m.getName().equals(method.split(" ")[1]));
                }
            }
            for (Field f : inside.getDeclaredFields()) {
                due.holds(f + " static is final",
                    !Modifier.isStatic(f.getModifiers()) || Modifier.isFinal(f.getModifiers()));
            }
        }
    }

    private static void source() throws IOException {
        String text = Files.readString(Path.of("src/main/java/PeaCups.java"));
        String code = text.replaceAll("(?s)/\\*.*?\\*/", " ").replaceAll("//[^\n]*", " ");
        Matcher banned = Pattern.compile("\\b(throw|throws|try|catch|finally|synchronized|assert|package|protected|"
            + "volatile|transient|native|double|float|System|Object|hashCode|toString)\\b|->|::|Exact\\b").matcher(code);
        while (banned.find()) {
            due.holds("the source has " + banned.group(), false);
        }
        Matcher imports = Pattern.compile("import\\s+([^;]+);").matcher(code);
        while (imports.find()) {
            due.holds("imports " + imports.group(1), imports.group(1).equals("java.util.Arrays"));
        }
    }
}
