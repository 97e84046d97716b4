import java.io.IOException;
import java.lang.reflect.Constructor;
import java.lang.reflect.Field;
import java.lang.reflect.Method;
import java.lang.reflect.Modifier;
import java.nio.file.Files;
import java.nio.file.Path;
import java.util.ArrayList;
import java.util.List;
import java.util.TreeSet;
import java.util.regex.Matcher;
import java.util.regex.Pattern;

/** What can be seen of the document's face and of LANGUAGE.md from outside; the arguments are the paths of the source and of the document. */
public final class LanguageTest {
    private static final int METHODS = 30;
    private static final Pattern HEAD = Pattern.compile("(int|long|boolean) (\\w+)\\(((?:int \\w+(?:, )?)*)\\)");
    private static final String[] FORBIDDEN = {
        "\\bthrow\\b", "\\bthrows\\b", "\\btry\\b", "\\bcatch\\b", "\\bsynchronized\\b", "\\bassert\\b", "->", "::",
        "Exact\\b", "\\bprotected\\b", "\\bdouble\\b", "\\bfloat\\b", "static \\{", "\\bnative\\b", "\\bvolatile\\b",
        "\\bpackage\\b", "\\bObject\\b", "\\bInteger\\.[A-Z]", "\\bLong\\.[A-Z]", "while \\(true\\)", "for \\(;;\\)",
        "\\bSystem\\.(?!arraycopy\\b)", "\\bArrays\\.(?!copyOf\\b|copyOfRange\\b|fill\\b)", "[^\\x00-\\x7f]"};

    /** The heads of the document's methods, and their names alone. */
    private static final TreeSet<String> FACE = new TreeSet<>();
    private static final TreeSet<String> NAMES = new TreeSet<>();
    private static int wrong;

    private LanguageTest() {
    }

    private static void need(boolean good, String what) {
        if (!good) {
            wrong++;
            System.out.println("not so: " + what);
        }
    }

    public static void main(String[] args) throws IOException {
        heads(Files.readString(Path.of(args.length > 1 ? args[1] : "../shared/DOC.md")));
        face();
        for (Class<?> c : NineGraves.class.getDeclaredClasses()) {
            inside(c);
        }
        need(NineGraves.class.getDeclaredClasses().length <= 11, "some twelve classes at most");
        source(Files.readString(Path.of(args.length > 0 ? args[0] : "src/main/java/NineGraves.java")));
        System.out.println(wrong == 0 ? "the face and the language are kept" : wrong + " things are not so");
        if (wrong != 0) {
            System.exit(1);
        }
    }

    /** The face and the promises of the document have the same heads. */
    private static void heads(String document) {
        int from = document.indexOf("## The public face");
        int to = document.indexOf("## Terms");
        need(from >= 0 && to > from, "the document has a public face");
        TreeSet<String> promised = new TreeSet<>();
        Matcher m = HEAD.matcher(document);
        while (m.find()) {
            String head = m.group(1) + " " + m.group(2) + " " + (m.group(3).isEmpty() ? 0 : m.group(3).split(",").length);
            if (m.start() > from && m.start() < to) {
                FACE.add(head);
                NAMES.add(m.group(2));
            } else {
                promised.add(head);
            }
        }
        need(FACE.size() == METHODS && promised.equals(FACE), "the document's heads: " + FACE + ", " + promised);
    }

    private static void face() {
        TreeSet<String> open = new TreeSet<>();
        TreeSet<String> closed = new TreeSet<>();
        for (Method m : NineGraves.class.getDeclaredMethods()) {
            if (Modifier.isPrivate(m.getModifiers())) {
                closed.add(m.getName());
            } else {
                open.add(m.getReturnType() + " " + m.getName() + " " + m.getParameterCount());
                need(Modifier.isPublic(m.getModifiers()), m.getName() + " is public");
                for (Class<?> p : m.getParameterTypes()) {
                    need(p == int.class, m.getName() + " takes ints");
                }
            }
        }
        need(open.equals(FACE), "the methods are the document's: " + open);
        for (String name : NAMES) {
            need(!closed.contains(name), "no private method bears a public one's name: " + name);
        }
        need(NineGraves.NONE == -1, "NONE is -1");
        for (Field f : NineGraves.class.getDeclaredFields()) {
            need(Modifier.isPrivate(f.getModifiers()) != f.getName().equals("NONE"), "NONE alone is open: " + f);
        }
        Constructor<?>[] made = NineGraves.class.getDeclaredConstructors();
        need(made.length == 1 && Modifier.isPublic(made[0].getModifiers()), "one public constructor");
        need(Modifier.isFinal(NineGraves.class.getModifiers()), "the class is final");
    }

    private static void inside(Class<?> c) {
        need(Modifier.isStatic(c.getModifiers()), c + " is static");
        need(!Modifier.isPublic(c.getModifiers()) && !Modifier.isProtected(c.getModifiers()), c + " is not open");
        int fields = 0;
        for (Field f : c.getDeclaredFields()) {
            boolean constant = Modifier.isStatic(f.getModifiers());
            need(!constant || Modifier.isFinal(f.getModifiers()), f + " is final");
            fields += constant ? 0 : 1;
        }
        need(fields <= 20, c + " has some twenty fields at most: " + fields);
        for (Method m : c.getDeclaredMethods()) {
            need(m.getParameterCount() <= 7, m + " takes at most seven");
            need(!NAMES.contains(m.getName()), m + " has a name of its own");
        }
    }

    private static void source(String text) {
        String code = text.replaceAll("(?s)/\\*.*?\\*/", "").replaceAll("//[^\n]*", "").replaceAll("\"[^\"\n]*\"", "\"\"");
        for (String f : FORBIDDEN) {
            Matcher m = Pattern.compile(f).matcher(code);
            need(!m.find(), "no " + f);
        }
        List<String> imports = new ArrayList<>();
        int length = 0;
        for (String line : code.split("\n")) {
            if (line.startsWith("import ")) {
                imports.add(line);
            }
            // A method begins and ends at four or eight blanks.
            boolean begins = line.matches(" {4,8}[a-zA-Z].*\\) \\{");
            length = begins ? 0 : length + 1;
            if (line.matches(" {4,8}\\}")) {
                need(length <= 60, "a method of at most sixty lines: " + length);
            }
            if (line.matches(" {4}private static final class .*")) {
                length = -1000;
            }
        }
        need(imports.equals(List.of("import java.util.Arrays;")), "no import but Arrays: " + imports);
    }
}
