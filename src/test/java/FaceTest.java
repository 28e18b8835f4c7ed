import java.io.IOException;
import java.lang.reflect.Constructor;
import java.lang.reflect.Field;
import java.lang.reflect.Method;
import java.lang.reflect.Modifier;
import java.nio.file.Files;
import java.nio.file.Path;
import java.util.ArrayList;
import java.util.Arrays;
import java.util.HashSet;
import java.util.List;
import java.util.Set;
import java.util.TreeSet;
import java.util.regex.Matcher;
import java.util.regex.Pattern;

/** The public face of the document, and the rules of LANGUAGE.md that can be seen without reading. */
public final class FaceTest {
    private static final String[] FACE = {
        "int section(int, long, long) IllegalArgumentException UnsupportedOperationException",
        "int add(int, byte) NoSuchElementException UnsupportedOperationException",
        "byte octet(int, int) NoSuchElementException ArrayIndexOutOfBoundsException",
        "long beside(int, long) NoSuchElementException IllegalArgumentException",
        "int widths(int, int, int, int) NoSuchElementException IllegalArgumentException",
        "int run(int, int, int) NoSuchElementException IllegalArgumentException UnsupportedOperationException",
        "int key(int, int, int) NoSuchElementException IllegalArgumentException",
        "int head(long, int, int) IllegalArgumentException UnsupportedOperationException",
        "int read(long)",
        "int kind(int) IndexOutOfBoundsException",
        "long place(int, int) IndexOutOfBoundsException",
        "int revision(int, int) IndexOutOfBoundsException",
        "long told(int, int) IndexOutOfBoundsException",
        "int free(int) IndexOutOfBoundsException",
        "int trailer(int) IllegalArgumentException",
        "int value(int, int) NoSuchElementException IllegalArgumentException",
    };

    /** Words that the rules leave out of the class. */
    private static final String[] LEFT_OUT = {
        "try", "catch", "finally", "synchronized", "assert", "Exact", "->", "::", "getMessage", "System\\.",
        "Random", "Thread", "@Override", "equals", "hashCode", "toString", "static \\{", "class \\w+ extends",
    };

    /** What rule 6 lets a method throw; the document names one more, of octet alone. */
    private static final List<String> THROWN = List.of("IllegalStateException", "IllegalArgumentException",
            "IndexOutOfBoundsException", "ArithmeticException", "UnsupportedOperationException",
            "NoSuchElementException", "RuntimeException");

    private static int wrong = 0;

    private static void mustHold(String what, boolean holds) {
        if (!holds) {
            wrong++;
            System.out.println("does not hold: " + what);
        }
    }

    private static String names(Class<?>[] types, String between) {
        List<String> names = new ArrayList<>();
        for (Class<?> type : types) {
            names.add(type.getSimpleName());
        }
        return String.join(between, names);
    }

    private static String signature(Method m) {
        String thrown = names(m.getExceptionTypes(), " ");
        String head = m.getReturnType().getSimpleName() + " " + m.getName();
        return (head + "(" + names(m.getParameterTypes(), ", ") + ") " + thrown).trim();
    }

    private static void members() {
        Set<String> due = new TreeSet<>(Arrays.asList(FACE));
        Set<String> got = new TreeSet<>();
        Set<String> publicNames = new HashSet<>();
        for (Method m : CrossTables.class.getDeclaredMethods()) {
            if (Modifier.isPublic(m.getModifiers())) {
                got.add(signature(m));
                publicNames.add(m.getName());
            } else {
                mustHold(m + " is private", m.isSynthetic() || Modifier.isPrivate(m.getModifiers()));
            }
        }
        mustHold("the public methods are those of the document: " + got, got.equals(due));
        for (Class<?> inside : CrossTables.class.getDeclaredClasses()) {
            mustHold(inside + " is static", Modifier.isStatic(inside.getModifiers()));
            mustHold(inside + " is not public", !Modifier.isPublic(inside.getModifiers()));
            mustHold(inside + " has some twenty fields", inside.getDeclaredFields().length <= 20);
            noPublicName(inside, publicNames);
        }
        noPublicName(CrossTables.class, publicNames);
        mustHold("the class is public and final",
                (CrossTables.class.getModifiers() & (Modifier.PUBLIC | Modifier.FINAL)) == (Modifier.PUBLIC | Modifier.FINAL));
        Constructor<?>[] made = CrossTables.class.getDeclaredConstructors();
        mustHold("one public constructor without arguments",
                made.length == 1 && Modifier.isPublic(made[0].getModifiers()) && made[0].getParameterCount() == 0);
        for (Field f : CrossTables.class.getDeclaredFields()) {
            mustHold(f + " is private", Modifier.isPrivate(f.getModifiers()));
            staticFieldIsConstant(f);
        }
    }

    private static void noPublicName(Class<?> c, Set<String> publicNames) {
        for (Method m : c.getDeclaredMethods()) {
            boolean isFace = c == CrossTables.class && Modifier.isPublic(m.getModifiers());
            mustHold(m + " has a name of its own", isFace || !publicNames.contains(m.getName()));
        }
    }

    private static void staticFieldIsConstant(Field f) {
        if (Modifier.isStatic(f.getModifiers())) {
            List<Class<?>> allowed = List.of(int.class, long.class, boolean.class, char.class, String.class);
            mustHold(f + " is a constant", Modifier.isFinal(f.getModifiers()) && allowed.contains(f.getType()));
        }
    }

    private static void source() throws IOException {
        String all = Files.readString(Path.of("src/main/java/CrossTables.java"));
        String code = all.replaceAll("(?s)/\\*.*?\\*/", "").replaceAll("//[^\n]*", "");
        String bare = code.replaceAll("\"[^\"]*\"", "\"\"");
        for (String word : LEFT_OUT) {
            String pattern = Character.isLetter(word.charAt(0)) ? "\\b" + word : word;
            mustHold("no " + word, !Pattern.compile(pattern).matcher(bare).find());
        }
        Matcher imports = Pattern.compile("(?m)^import (.*);$").matcher(code);
        while (imports.find()) {
            mustHold("import " + imports.group(1), imports.group(1).equals("java.util.NoSuchElementException"));
        }
        mustHold("no package line", !Pattern.compile("(?m)^package").matcher(code).find());
        mustHold("written signs alone", all.chars().allMatch(c -> c == '\n' || c >= 32 && c < 127));
        methodsAreShort(bare);
        throwsAreListed(bare);
    }

    private static void throwsAreListed(String code) {
        String ofOctet = "throw new ArrayIndexOutOfBoundsException(\"\");";
        int octet = code.indexOf("public byte octet(");
        int next = code.indexOf("public long beside(");
        int at = code.indexOf(ofOctet);
        mustHold("octet throws what the document names", octet >= 0 && octet < at && at < next);
        String others = code.replaceFirst(Pattern.quote(ofOctet), "");
        Matcher thrown = Pattern.compile("\\bthrow\\b(?: new (\\w+)\\(\"\"\\);)?").matcher(others);
        while (thrown.find()) {
            String name = thrown.group(1);
            mustHold("rule 6 lists what is thrown: " + thrown.group(), name != null && THROWN.contains(name));
        }
    }

    private static void methodsAreShort(String code) {
        Matcher methods = Pattern.compile("(?ms)^( {4}| {8})(\\w[^;{}]*\\([^;{}]*)\\{\n(.*?)^\\1\\}$").matcher(code);
        int seen = 0;
        while (methods.find()) {
            seen++;
            mustHold("at most sixty lines: " + methods.group(2), methods.group(3).split("\n").length <= 60);
        }
        mustHold("all methods are seen", seen > 40);
    }

    public static void main(String[] args) throws IOException {
        members();
        source();
        System.out.println(wrong == 0 ? "the face is as due" : wrong + " rules do not hold");
        if (wrong != 0) {
            System.exit(1);
        }
    }
}
