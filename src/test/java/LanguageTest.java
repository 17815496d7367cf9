import java.io.IOException;
import java.lang.reflect.Constructor;
import java.lang.reflect.Field;
import java.lang.reflect.Method;
import java.lang.reflect.Modifier;
import java.nio.file.Files;
import java.nio.file.Path;
import java.util.List;
import java.util.TreeSet;
import java.util.regex.Matcher;
import java.util.regex.Pattern;

/** The rules of LANGUAGE.md that the program's file and its compiled classes show. */
public final class LanguageTest {
    private static final Check check = new Check();
    private static final List<String> CALLS = List.of("saying(int,int)", "sayings(int,int,int)", "mend(int,int,int)",
            "of(int,int)", "feed(int)", "writer(int,int)", "heed(int,int)", "take(int,int)", "told(int,int)",
            "add(int,int,int)", "strike(int,int)", "read(int,int)", "cut(int,int)", "page(int,int)", "led(int,int)",
            "sure(int,int)", "only()", "fight(int,int)", "order(int)", "said(int,int,int)", "whose(int)",
            "learnt(int,int)", "asleep(int,int)", "ask(int)", "years(int,int)", "undo()", "redo()", "body(int)",
            "act(int,int,int)", "trace(int)", "keep(int,int)", "row(int,int,int)", "put(int,int,long)",
            "element(int,int)", "shift(int,int,int,int,int)", "taken(int,int)", "count(int)");
    private static final List<String> NO_WORDS = List.of("throw", "throws", "try", "catch", "finally", "synchronized",
            "assert", "import", "package", "lambda", "volatile", "transient", "native", "var", "Object", "HashMap",
            "equals", "hashCode", "toString", "getClass", "System.out", "Thread", "Random", "nanoTime",
            "currentTimeMillis");

    public static void main(String[] args) throws IOException {
        face();
        insideClasses();
        String code = withoutCommentsAndSigns(Files.readString(Path.of("src/main/java/WhatWasSaid.java")));
        words(code);
        methods(code);
        makesInConstructorsOnly(code);
        check.end();
    }

    private static void face() {
        Class<?> face = WhatWasSaid.class;
        check.holds("public and final", Modifier.isPublic(face.getModifiers()) && Modifier.isFinal(face.getModifiers()));
        TreeSet<String> open = new TreeSet<>();
        TreeSet<String> openNames = new TreeSet<>();
        for (Method method : face.getDeclaredMethods()) {
            if (!Modifier.isPrivate(method.getModifiers()) && !method.isSynthetic()) {
                String text = method.toString();
                check.holds(text + " is public", Modifier.isPublic(method.getModifiers()));
                open.add(method.getName() + text.substring(text.indexOf('(')));
                openNames.add(method.getName());
                boolean tellsLong = method.getName().equals("said") || method.getName().equals("element");
                check.holds(text + " answers as told", method.getReturnType() == (tellsLong ? long.class : int.class));
            }
        }
        check.holds("the calls are those of the document: " + open, open.equals(new TreeSet<>(CALLS)));
        for (Method method : face.getDeclaredMethods()) {
            if (Modifier.isPrivate(method.getModifiers())) {
                check.holds(method + " has a name of its own", !openNames.contains(method.getName()));
            }
        }
        TreeSet<String> constants = new TreeSet<>();
        for (Field field : face.getDeclaredFields()) {
            if (!Modifier.isPrivate(field.getModifiers())) {
                constants.add(field.getName());
            }
            check.holds(field + ": a static one is final",
                    !Modifier.isStatic(field.getModifiers()) || Modifier.isFinal(field.getModifiers()));
        }
        check.holds("the constants", constants.equals(new TreeSet<>(List.of("BAD", "NOT", "FULL", "STATE", "VOID"))));
        Constructor<?>[] made = face.getDeclaredConstructors();
        check.holds("one public constructor", made.length == 1 && Modifier.isPublic(made[0].getModifiers()));
    }

    private static void insideClasses() {
        Class<?>[] inside = WhatWasSaid.class.getDeclaredClasses();
        check.holds("some twelve classes", inside.length + 1 <= 12);
        for (Class<?> one : inside) {
            check.holds(one + " is static and not open", Modifier.isStatic(one.getModifiers())
                    && !Modifier.isPublic(one.getModifiers()) && !Modifier.isProtected(one.getModifiers()));
            int fields = 0;
            for (Field field : one.getDeclaredFields()) {
                boolean fixed = Modifier.isStatic(field.getModifiers());
                fields += fixed ? 0 : 1;
                check.holds(field + ": a static one is final", !fixed || Modifier.isFinal(field.getModifiers()));
            }
            check.holds(one + " has some twenty fields", fields <= 20);
            for (Method method : one.getDeclaredMethods()) {
                boolean clash = CALLS.stream().anyMatch(call -> call.startsWith(method.getName() + "("));
                check.holds(method + " has a name of its own", !clash);
            }
        }
    }

    /** Keeps the lines, blanks out what stands in comments, and makes each sign in quotes a 0. */
    private static String withoutCommentsAndSigns(String source) {
        String code = Pattern.compile("/\\*.*?\\*/|//[^\n]*", Pattern.DOTALL).matcher(source)
                .replaceAll(found -> found.group().replaceAll("[^\n]", " "));
        for (int i = 0; i < source.length(); i++) {
            check.holds("only signs 1 to 127 in the source", source.charAt(i) >= 1 && source.charAt(i) <= 127);
        }
        return code.replaceAll("'(\\\\.|[^'])'", "0");
    }

    private static void words(String code) {
        for (String word : NO_WORDS) {
            check.holds("no " + word, !Pattern.compile("\\b" + Pattern.quote(word) + "\\b").matcher(code).find());
        }
        check.holds("no ->", !code.contains("->"));
        check.holds("no ::", !code.contains("::"));
        check.holds("no annotations", !code.contains("@"));
        check.holds("no texts", !code.contains("\""));
        check.holds("no ...", !code.contains("..."));
        check.holds("no Exact", !code.contains("Exact"));
        check.holds("no static block", !Pattern.compile("static\\s*\\{").matcher(code).find());
        check.holds("no while that a counter does not end", !Pattern.compile("\\bwhile\\b").matcher(code).find());
    }

    private static void methods(String code) {
        Pattern head = Pattern.compile("\\n( {4}| {8})((?:public |private |static )*)(\\w+(?:\\[\\])*) (\\w+)\\(([^)]*)\\) \\{\\n"
                + "(.*?)\\n\\1\\}", Pattern.DOTALL);
        Matcher found = head.matcher(code);
        int methods = 0;
        while (found.find()) {
            methods++;
            String[] parameters = found.group(5).isEmpty() ? new String[0] : found.group(5).split(",");
            check.holds(found.group(4) + " takes at most seven", parameters.length <= 7);
            check.holds(found.group(4) + " is short", found.group(6).lines().count() <= 60);
        }
        check.holds("methods were found", methods > 100);
    }

    /** All that a run needs is made when the object is. */
    private static void makesInConstructorsOnly(String code) {
        String constructor = "";
        for (String line : code.split("\n")) {
            String text = line.trim();
            if (text.matches("(public )?[A-Z]\\w*\\([^)]*\\) \\{")) {
                constructor = line.substring(0, line.indexOf(text)) + "}";
            } else if (line.equals(constructor)) {
                constructor = "";
            }
            boolean field = text.startsWith("private final ") || text.startsWith("private static final ");
            check.holds("made outside a constructor: " + text, !text.matches(".*\\bnew\\b.*") || field || !constructor.isEmpty());
        }
    }
}
