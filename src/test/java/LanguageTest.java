import java.lang.reflect.Constructor;
import java.lang.reflect.Field;
import java.lang.reflect.Method;
import java.lang.reflect.Modifier;
import java.nio.charset.StandardCharsets;
import java.nio.file.Files;
import java.nio.file.Path;
import java.util.Set;
import java.util.TreeSet;
import java.util.regex.Pattern;

/** The document's public face, and those rules of LANGUAGE.md that a program can look at simply. */
public final class LanguageTest {
    private static final Path PROGRAM = Path.of("src/main/java/DoughRoom.java");

    private static final Set<String> FACE = Set.of(
            "int NONE", "int BAD", "int NO", "int FULL", "DoughRoom()",
            "int batch(int, int)", "int ask(int, int, int)", "int trace(int)", "int room(int)",
            "int heat(int, int)", "int minutes(int)", "int bake(int, int)", "int out(int)",
            "int sell(int)", "int day()", "int told(int, int)", "int count(int)");

    private static final String[] FORBIDDEN = {
        "\\bthrow\\b", "\\bthrows\\b", "\\btry\\b", "\\bcatch\\b", "\\bsynchronized\\b", "\\bassert\\b",
        "\\bimport\\b", "\\bpackage\\b", "\\bprotected\\b", "\\bvolatile\\b", "->", "::",
        "\\.equals\\b", "\\bhashCode\\b", "\\btoString\\b", "\\bstatic\\s*\\{", "\\w+Exact\\b",
    };

    private static final Due due = new Due();

    public static void main(String[] args) throws Exception {
        constants();
        face();
        classesInside();
        words();
        due.end();
    }

    private static void constants() {
        due.is("NONE", DoughRoom.NONE, -1);
        due.is("BAD", DoughRoom.BAD, -2);
        due.is("NO", DoughRoom.NO, -3);
        due.is("FULL", DoughRoom.FULL, -4);
    }

    private static void face() {
        Class<?> c = DoughRoom.class;
        due.isTrue("the class is public and final",
                Modifier.isPublic(c.getModifiers()) && Modifier.isFinal(c.getModifiers()));
        Set<String> found = new TreeSet<>();
        Set<String> publicNames = new TreeSet<>();
        for (Constructor<?> made : c.getDeclaredConstructors()) {
            found.add("DoughRoom" + parameters(made.getParameterTypes()));
            due.isTrue("constructors are public", Modifier.isPublic(made.getModifiers()));
        }
        for (Method m : c.getDeclaredMethods()) {
            if (!Modifier.isPrivate(m.getModifiers())) {
                due.isTrue(m + " is public", Modifier.isPublic(m.getModifiers()));
                found.add(m.getReturnType() + " " + m.getName() + parameters(m.getParameterTypes()));
                publicNames.add(m.getName());
            }
        }
        for (Field f : c.getDeclaredFields()) {
            if (!Modifier.isPrivate(f.getModifiers())) {
                due.isTrue(f + " is public", Modifier.isPublic(f.getModifiers()));
                found.add(f.getType() + " " + f.getName());
            }
        }
        due.isTrue("the face is the document's: " + found, found.equals(FACE));
        for (Method m : c.getDeclaredMethods()) {
            due.isTrue(m + " has a name of its own",
                    !Modifier.isPrivate(m.getModifiers()) || !publicNames.contains(m.getName()));
            due.isTrue(m + " takes at most seven", m.getParameterCount() <= 7);
        }
    }

    private static String parameters(Class<?>[] types) {
        StringBuilder text = new StringBuilder("(");
        for (int i = 0; i < types.length; i++) {
            text.append(i == 0 ? "" : ", ").append(types[i]);
        }
        return text.append(")").toString();
    }

    private static void classesInside() {
        staticsAreFinal(DoughRoom.class);
        due.isTrue("at most twelve classes", DoughRoom.class.getDeclaredClasses().length <= 11);
        for (Class<?> inside : DoughRoom.class.getDeclaredClasses()) {
            due.isTrue(inside + " is static", Modifier.isStatic(inside.getModifiers()));
            due.isTrue(inside + " is not public", !Modifier.isPublic(inside.getModifiers()));
            staticsAreFinal(inside);
        }
    }

    private static void staticsAreFinal(Class<?> c) {
        for (Field f : c.getDeclaredFields()) {
            due.isTrue(f + " is no static state",
                    !Modifier.isStatic(f.getModifiers()) || Modifier.isFinal(f.getModifiers()));
        }
    }

    private static void words() throws Exception {
        String text = Files.readString(PROGRAM, StandardCharsets.ISO_8859_1);
        String code = text.replaceAll("(?s)/\\*.*?\\*/", " ").replaceAll("//[^\n]*", " ");
        for (String word : FORBIDDEN) {
            due.isTrue("no " + word + " in the program", !Pattern.compile(word).matcher(code).find());
        }
    }
}
