import java.io.IOException;
import java.lang.reflect.InvocationTargetException;
import java.lang.reflect.Method;
import java.lang.reflect.Modifier;
import java.net.URL;
import java.net.URLClassLoader;
import java.nio.file.Files;
import java.nio.file.Path;
import java.util.List;
import java.util.regex.Matcher;
import java.util.regex.Pattern;
import java.util.stream.Stream;
import javax.tools.JavaCompiler;
import javax.tools.ToolProvider;

/** The program that README.md shows, compiled and run: each call whose answer stands behind it must answer so. */
public final class ReadmeTest {
    private static final Check check = new Check();
    private static final Pattern BLOCK = Pattern.compile("```java\n(.*?)```", Pattern.DOTALL);
    private static final Pattern CALL = Pattern.compile("(int \\w+ = )?(x\\.\\w+\\(.*\\));\\s+// (-?\\d+|Long\\.MIN_VALUE):.*");
    private static final List<String> REFUSALS = List.of("`BAD` (-1)", "`NOT` (-2)", "`FULL` (-3)", "`STATE` (-5)", "-11",
            "-12", "-13", "-14", "-100", "`VOID` (-2000000000)", "`Long.MIN_VALUE`");

    public static void main(String[] args) throws IOException, ReflectiveOperationException {
        String page = Files.readString(Path.of("README.md"));
        String program = programOf(page);
        run(program);
        namesEachCall(program);
        namesEachTest(page);
        for (String refusal : REFUSALS) {
            check.holds("README.md tells of the refusal " + refusal, page.contains("\n| " + refusal));
        }
        check.end();
    }

    /** Called by the program that is made of README.md. */
    public static int due(String call, long got, long want) {
        check.due(call, got, want);
        return (int) got;
    }

    private static String programOf(String page) {
        StringBuilder program = new StringBuilder();
        Matcher block = BLOCK.matcher(page);
        while (block.find()) {
            block.group(1).lines().forEach(line -> program.append(checked(line)).append('\n'));
        }
        return program.toString();
    }

    private static String checked(String line) {
        Matcher call = CALL.matcher(line);
        if (!call.matches()) {
            check.holds("an answer of README.md stands behind a call: " + line, !line.contains("//"));
            return line;
        }
        String kept = call.group(1) == null ? "" : call.group(1);
        String want = call.group(3).startsWith("Long") ? call.group(3) : call.group(3) + "L";
        return kept + "ReadmeTest.due(\"" + call.group(2) + "\", " + call.group(2) + ", " + want + ");";
    }

    private static void run(String program) throws IOException, ReflectiveOperationException {
        Path made = Files.createTempDirectory("readme");
        Path source = made.resolve("Shown.java");
        Files.writeString(source, "public final class Shown {\n public static void main(String[] args) {\n"
                + program + "}\n}\n");
        JavaCompiler compiler = ToolProvider.getSystemJavaCompiler();
        int ended = compiler.run(null, null, null, "-cp", System.getProperty("java.class.path"), "-d", made.toString(),
                source.toString());
        check.due("README.md's program compiles", ended, 0);
        int before = check.asked();
        if (ended == 0) {
            try (URLClassLoader loader = new URLClassLoader(new URL[] {made.toUri().toURL()})) {
                loader.loadClass("Shown").getMethod("main", String[].class).invoke(null, (Object) new String[0]);
            } catch (InvocationTargetException e) {
                check.holds("README.md's program ends: " + e.getCause(), false);
            }
        }
        check.holds("README.md shows calls", check.asked() - before > 37);
        try (Stream<Path> files = Files.list(made)) {
            for (Path file : files.toList()) {
                Files.delete(file);
            }
        }
        Files.delete(made);
    }

    private static void namesEachCall(String program) {
        for (Method method : WhatWasSaid.class.getDeclaredMethods()) {
            if (Modifier.isPublic(method.getModifiers())) {
                check.holds("README.md shows " + method.getName(), program.contains("x." + method.getName() + "("));
            }
        }
    }

    private static void namesEachTest(String page) throws IOException {
        try (Stream<Path> files = Files.list(Path.of("src/test/java"))) {
            for (Path file : files.toList()) {
                String name = file.getFileName().toString().replace(".java", "");
                boolean test = name.endsWith("Test");
                check.holds("README.md names " + name, !test || page.contains("`" + name + "`"));
            }
        }
    }
}
