import java.io.IOException;
import java.lang.reflect.Method;
import java.lang.reflect.Modifier;
import java.net.URL;
import java.net.URLClassLoader;
import java.nio.file.Files;
import java.nio.file.Path;
import java.util.ArrayList;
import java.util.List;
import java.util.regex.Matcher;
import java.util.regex.Pattern;
import javax.tools.JavaCompiler;
import javax.tools.ToolProvider;

/** The example of README.md answers what stands there, and its list of calls is that of the class. */
public final class ReadmeTest {
    private static final Path README = Path.of("README.md");
    private static final Pattern STEP = Pattern.compile("(.*;)\\s*(//.*)?");
    private static final Pattern DUE = Pattern.compile("// (= |throws )([-\\w]+)(:.*)?");
    private static final Pattern DECLARED = Pattern.compile("\\w+ (\\w+) = .*;");
    private static final Pattern CALL = Pattern.compile("\\| `(\\w+ \\w+\\([^)]*\\))` \\|.*\\|(.*)\\|");
    private static final Pattern EXCEPTION = Pattern.compile("`(\\w+Exception)`");
    private static final Check check = new Check();

    /** A statement of the example; due is empty if nothing is told of its answer. */
    private record Step(int line, String code, String due, boolean thrown) {
    }

    public static void main(String[] args) throws IOException, ReflectiveOperationException {
        List<String> lines = Files.readAllLines(README);
        List<Step> steps = steps(lines);
        everyCallHasAnExample(steps);
        answers(steps);
        callsAndExceptions(lines);
        check.end("ReadmeTest");
    }

    /** The statements of all its blocks of Java; those follow one another, so they are one example. */
    private static List<Step> steps(List<String> lines) {
        List<Step> steps = new ArrayList<>();
        boolean inside = false;
        for (int i = 0; i < lines.size(); i++) {
            String line = lines.get(i);
            if (line.startsWith("```")) {
                inside = line.equals("```java");
            } else if (inside && !line.isBlank()) {
                steps.add(step(i + 1, line));
            }
        }
        return steps;
    }

    private static Step step(int number, String line) {
        Matcher parts = STEP.matcher(line);
        check.dueTrue("line " + number + " is a statement", parts.matches());
        Matcher due = DUE.matcher(parts.group(2) == null ? "" : parts.group(2));
        if (!due.matches()) {
            return new Step(number, parts.group(1), "", false);
        }
        return new Step(number, parts.group(1), due.group(2), due.group(1).equals("throws "));
    }

    /** And every answer is told: only what answers nothing, and the making of the object, may lack one. */
    private static void everyCallHasAnExample(List<Step> steps) {
        for (Method m : PayLedger.class.getDeclaredMethods()) {
            if (Modifier.isPublic(m.getModifiers())) {
                String call = "office." + m.getName() + "(";
                List<Step> examples = steps.stream().filter(s -> s.code().contains(call)).toList();
                check.dueTrue("an example of " + m.getName(), !examples.isEmpty());
                boolean told = examples.stream().noneMatch(s -> s.due().isEmpty());
                check.dueTrue("answers of " + m.getName() + " are told", told || m.getReturnType() == void.class);
            }
        }
    }

    private static void answers(List<Step> steps) throws IOException, ReflectiveOperationException {
        List<Step> told = steps.stream().filter(s -> !s.due().isEmpty()).toList();
        List<?> answers = answersOf(program(steps));
        check.due("how many answers the example has", told.size(), answers.size());
        for (int i = 0; i < told.size() && i < answers.size(); i++) {
            Step s = told.get(i);
            check.due("line " + s.line() + ", " + s.code(), s.due(), answers.get(i).toString());
        }
    }

    private static String program(List<Step> steps) {
        StringBuilder text = new StringBuilder();
        text.append("import java.util.*;\npublic class Example {\npublic static List<String> answers() {\n");
        text.append("List<String> told = new ArrayList<>();\n");
        for (Step s : steps) {
            text.append(asked(s)).append('\n');
        }
        return text.append("return told;\n}\n}\n").toString();
    }

    private static String asked(Step s) {
        if (s.thrown()) {
            return "try { " + s.code() + " told.add(\"nothing thrown\"); }"
                    + " catch (RuntimeException e) { told.add(e.getClass().getSimpleName()); }";
        }
        if (s.due().isEmpty()) {
            return s.code();
        }
        Matcher declared = DECLARED.matcher(s.code());
        String call = s.code().substring(0, s.code().length() - 1);
        return declared.matches()
                ? s.code() + " told.add(String.valueOf(" + declared.group(1) + "));"
                : "told.add(String.valueOf(" + call + "));";
    }

    private static List<?> answersOf(String program) throws IOException, ReflectiveOperationException {
        Path folder = Files.createTempDirectory("readme");
        Path source = folder.resolve("Example.java");
        Path compiled = folder.resolve("Example.class");
        try {
            Files.writeString(source, program);
            JavaCompiler compiler = ToolProvider.getSystemJavaCompiler();
            int code = compiler.run(null, null, null, "--release", "17", "-d", folder.toString(),
                    "-cp", System.getProperty("java.class.path"), source.toString());
            check.due("the example compiles, code of javac", 0, code);
            return code == 0 ? run(folder) : List.of();
        } finally {
            Files.deleteIfExists(source);
            Files.deleteIfExists(compiled);
            Files.delete(folder);
        }
    }

    private static List<?> run(Path folder) throws IOException, ReflectiveOperationException {
        URL[] place = {folder.toUri().toURL()};
        try (URLClassLoader loader = new URLClassLoader(place, ReadmeTest.class.getClassLoader())) {
            return (List<?>) loader.loadClass("Example").getMethod("answers").invoke(null);
        }
    }

    /** Every call has a row with its types, and with its exceptions in the document's order. */
    private static void callsAndExceptions(List<String> lines) {
        List<String> rows = new ArrayList<>();
        for (String line : lines) {
            Matcher row = CALL.matcher(line);
            if (row.matches()) {
                String types = row.group(1).replaceAll("(\\w+) \\w+([,)])", "$1$2");
                rows.add(types + exceptions(row.group(2)));
            }
        }
        List<String> faces = new ArrayList<>(List.of(FaceTest.FACE));
        rows.sort(null);
        faces.sort(null);
        check.due("the calls with their exceptions", faces.toString(), rows.toString());
    }

    private static String exceptions(String column) {
        StringBuilder text = new StringBuilder();
        Matcher names = EXCEPTION.matcher(column);
        while (names.find()) {
            text.append(' ').append(names.group(1));
        }
        return text.toString();
    }
}
