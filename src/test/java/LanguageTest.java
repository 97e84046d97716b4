import java.io.IOException;
import java.lang.reflect.Constructor;
import java.lang.reflect.Field;
import java.lang.reflect.Method;
import java.lang.reflect.Modifier;
import java.nio.file.Files;
import java.nio.file.Path;
import java.util.ArrayList;
import java.util.Arrays;
import java.util.List;
import java.util.TreeSet;
import java.util.regex.Matcher;
import java.util.regex.Pattern;

/** What can be seen of the document's face and of LANGUAGE.md from outside; the argument is the source's path. */
public final class LanguageTest {
    private static final String[] FACE = {
        "int town 2", "int bone 3", "boolean prove 2", "int feed 5", "int end 1", "int text 0", "int fault 1",
        "boolean by 1", "int lend 3", "boolean swap 2", "boolean steal 2", "int burn 1", "int pass 1", "int played 1",
        "int undo 0", "int of 2", "int saints 2", "boolean rules 2", "int seen 4", "int forget 0", "boolean same 2",
        "int best 1", "long histories 0", "int led 1", "long chance 4", "int round 2", "int pilgrims 4", "int image 0",
        "int back 0", "int about 1"};
    private static final String[] FORBIDDEN = {
        "\\bthrow\\b", "\\bthrows\\b", "\\btry\\b", "\\bcatch\\b", "\\bsynchronized\\b", "\\bassert\\b", "->", "::",
        "Exact\\b", "\\bprotected\\b", "\\bdouble\\b", "\\bfloat\\b", "static \\{", "\\bnative\\b", "\\bvolatile\\b",
        "\\bpackage\\b", "\\bObject\\b", "\\bInteger\\.[A-Z]", "\\bLong\\.[A-Z]", "while \\(true\\)", "for \\(;;\\)",
        "\\bSystem\\.(?!arraycopy\\b)", "\\bArrays\\.(?!copyOf\\b|copyOfRange\\b|fill\\b)", "[^\\x00-\\x7f]"};

    private static int wrong;

    private LanguageTest() {
    }

    private static void need(boolean good, String what) {
        if (!good) {
            wrong++;
            System.out.println("not so: " + what);
        }
    }

    public static void main(String[] args) throws IOException {
        face();
        for (Class<?> c : NineGraves.class.getDeclaredClasses()) {
            inside(c);
        }
        need(NineGraves.class.getDeclaredClasses().length <= 11, "some twelve classes at most");
        source(Files.readString(Path.of(args.length > 0 ? args[0] : "src/main/java/NineGraves.java")));
        System.out.println(wrong == 0 ? "the face and the language are kept" : wrong + " things are not so");
        if (wrong != 0) {
            System.exit(1);
        }
    }

    private static void face() {
        TreeSet<String> open = new TreeSet<>();
        TreeSet<String> closed = new TreeSet<>();
        for (Method m : NineGraves.class.getDeclaredMethods()) {
            if (Modifier.isPrivate(m.getModifiers())) {
                closed.add(m.getName());
            } else {
                open.add(m.getReturnType() + " " + m.getName() + " " + m.getParameterCount());
                need(Modifier.isPublic(m.getModifiers()), m.getName() + " is public");
                for (Class<?> p : m.getParameterTypes()) {
                    need(p == int.class, m.getName() + " takes ints");
                }
            }
        }
        need(open.equals(new TreeSet<>(Arrays.asList(FACE))), "the methods are the document's: " + open);
        for (String f : FACE) {
            need(!closed.contains(f.split(" ")[1]), "no private method bears a public one's name: " + f);
        }
        for (Field f : NineGraves.class.getDeclaredFields()) {
            need(Modifier.isPrivate(f.getModifiers()) != f.getName().equals("NONE"), "NONE alone is open: " + f);
        }
        Constructor<?>[] made = NineGraves.class.getDeclaredConstructors();
        need(made.length == 1 && Modifier.isPublic(made[0].getModifiers()), "one public constructor");
        need(Modifier.isFinal(NineGraves.class.getModifiers()), "the class is final");
    }

    private static void inside(Class<?> c) {
        need(Modifier.isStatic(c.getModifiers()), c + " is static");
        need(!Modifier.isPublic(c.getModifiers()) && !Modifier.isProtected(c.getModifiers()), c + " is not open");
        int fields = 0;
        for (Field f : c.getDeclaredFields()) {
            boolean constant = Modifier.isStatic(f.getModifiers());
            need(!constant || Modifier.isFinal(f.getModifiers()), f + " is final");
            fields += constant ? 0 : 1;
        }
        need(fields <= 20, c + " has some twenty fields at most: " + fields);
        for (Method m : c.getDeclaredMethods()) {
            need(m.getParameterCount() <= 7, m + " takes at most seven");
            need(Arrays.stream(FACE).noneMatch(f -> f.split(" ")[1].equals(m.getName())), m + " has a name of its own");
        }
    }

    private static void source(String text) {
        String code = text.replaceAll("(?s)/\\*.*?\\*/", "").replaceAll("//[^\n]*", "").replaceAll("\"[^\"\n]*\"", "\"\"");
        for (String f : FORBIDDEN) {
            Matcher m = Pattern.compile(f).matcher(code);
            need(!m.find(), "no " + f);
        }
        List<String> imports = new ArrayList<>();
        int length = 0;
        for (String line : code.split("\n")) {
            if (line.startsWith("import ")) {
                imports.add(line);
            }
            // A method begins and ends at four or eight blanks.
            boolean begins = line.matches(" {4,8}[a-zA-Z].*\\) \\{");
            length = begins ? 0 : length + 1;
            if (line.matches(" {4,8}\\}")) {
                need(length <= 60, "a method of at most sixty lines: " + length);
            }
            if (line.matches(" {4}private static final class .*")) {
                length = -1000;
            }
        }
        need(imports.equals(List.of("import java.util.Arrays;")), "no import but Arrays: " + imports);
    }
}
