import java.io.IOException;
import java.lang.reflect.Constructor;
import java.lang.reflect.Executable;
import java.lang.reflect.Field;
import java.lang.reflect.Member;
import java.lang.reflect.Method;
import java.lang.reflect.Modifier;
import java.nio.file.Files;
import java.nio.file.Path;
import java.util.ArrayList;
import java.util.List;
import java.util.Set;
import java.util.TreeSet;
import java.util.regex.Matcher;
import java.util.regex.Pattern;

/** Such rules of LANGUAGE.md as can be seen from outside; those on the face are FaceTest's. */
public final class LanguageTest {
    private static final Path SOURCE = Path.of("src/main/java/PayLedger.java");
    private static final Check check = new Check();

    public static void main(String[] args) throws IOException {
        members();
        words();
        lengths();
        check.end("LanguageTest");
    }

    private static void members() {
        Set<String> names = new TreeSet<>();
        for (Method m : PayLedger.class.getMethods()) {
            names.add(m.getName());
        }
        Class<?>[] inside = PayLedger.class.getDeclaredClasses();
        check.dueTrue("some twelve classes", inside.length + 1 <= 12);
        for (Class<?> c : inside) {
            lookInto(c, names);
        }
        lookInto(PayLedger.class, names);
    }

    private static void lookInto(Class<?> c, Set<String> faceNames) {
        int fields = 0;
        for (Field f : c.getDeclaredFields()) {
            fields += Modifier.isStatic(f.getModifiers()) ? 0 : 1;
            check.dueTrue(f + " is no static state",
                    !Modifier.isStatic(f.getModifiers()) || Modifier.isFinal(f.getModifiers()));
        }
        check.dueTrue(c.getName() + " has some twenty fields", fields <= 20);
        for (Method m : c.getDeclaredMethods()) {
            boolean ofTheFace = c == PayLedger.class && Modifier.isPublic(m.getModifiers());
            check.dueTrue(m + " bears a name of its own", ofTheFace || !faceNames.contains(m.getName()));
            fewParameters(m);
        }
        for (Constructor<?> k : c.getDeclaredConstructors()) {
            fewParameters(k);
        }
    }

    private static <T extends Executable & Member> void fewParameters(T e) {
        check.dueTrue(e + " has at most seven parameters", e.getParameterCount() <= 7);
    }

    private static void words() throws IOException {
        String code = code();
        String[] never = {"->", "::", "\\btry\\b", "\\bcatch\\b", "\\bfinally\\b", "\\bsynchronized\\b",
            "\\bassert\\b", "Exact\\b", "\\bprotected\\b", "\\bpackage\\b", "\\bstatic\\s*\\{", "\\bSystem\\b",
            "\\bequals\\b", "\\bhashCode\\b", "\\btoString\\b", "\\bdouble\\b", "\\bfloat\\b", "\\bvar\\b"};
        for (String word : never) {
            check.dueTrue("the program has no " + word, !Pattern.compile(word).matcher(code).find());
        }
        Matcher imports = Pattern.compile("import\\s+([^;]+);").matcher(code);
        List<String> imported = new ArrayList<>();
        while (imports.find()) {
            imported.add(imports.group(1));
        }
        check.due("imports", "[java.util.NoSuchElementException]", imported.toString());
        Matcher calls = Pattern.compile("\\b([A-Z][a-z]\\w*)\\.(\\w+)\\(").matcher(code);
        while (calls.find()) {
            String call = calls.group(1) + "." + calls.group(2);
            check.dueTrue("library call " + call, Set.of("Math.min", "Math.max").contains(call));
        }
        Matcher thrown = Pattern.compile("\\bthrow\\b([^;]*);").matcher(code);
        Pattern right = Pattern.compile("\\s+new\\s+(IllegalState|IllegalArgument|IndexOutOfBounds"
                + "|UnsupportedOperation|NoSuchElement)Exception\\(\"\"\\)");
        while (thrown.find()) {
            check.dueTrue("throw" + thrown.group(1), right.matcher(thrown.group(1)).matches());
        }
    }

    private static void lengths() throws IOException {
        int length = 0;
        for (String line : Files.readAllLines(SOURCE)) {
            // A method's first line stands at one level of classes, its body at a deeper one.
            boolean member = line.matches(" {4}(?! ).*|\\S.*") || line.matches(" {8}\\S[^=;]*\\) \\{");
            length = member ? 0 : length + 1;
            check.dueTrue("a method of some sixty lines: " + line, length <= 60);
        }
    }

    /** The source without comments, and with empty texts. */
    private static String code() throws IOException {
        String source = Files.readString(SOURCE);
        return source.replaceAll("(?s)/\\*.*?\\*/", " ").replaceAll("//[^\n]*", " ")
                .replaceAll("\"[^\"\n]*\"", "\"\"");
    }
}
