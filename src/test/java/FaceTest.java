import java.io.IOException;
import java.lang.reflect.Constructor;
import java.lang.reflect.Field;
import java.lang.reflect.Method;
import java.lang.reflect.Modifier;
import java.nio.file.Files;
import java.nio.file.Path;
import java.util.Set;
import java.util.TreeSet;
import java.util.regex.Matcher;
import java.util.regex.Pattern;

/** The public face is the document's and no more, and the source keeps off words that LANGUAGE.md rules out. */
public final class FaceTest {
    private static final Set<String> METHODS = Set.of(
        "int clear()", "int node()", "int arc(int,int,int,int)", "int change(int,int,int)", "int shut(int,boolean)",
        "int next(int,int,int)", "int count(int,int)", "int apart(int,int,int,int)", "int most(int,int,int)",
        "int within(int,int,int)", "int pairs(int,int)", "int pair(int,int)", "int step(int)", "int sum(int)",
        "int told(int,int)", "int of(int)");
    private static final String[] RULED_OUT = {
        "throw", "throws", "try", "catch", "finally", "synchronized", "assert", "protected", "package", "volatile",
        "->", "::", "Random", "System.nanoTime", "System.currentTimeMillis"};

    public static void main(String[] args) throws IOException {
        checkClass();
        checkMethods();
        checkFields();
        checkNestedNames();
        checkSource();
        checkDocument();
        Check.end();
    }

    private static void isTrue(String what, boolean holds) {
        Check.due(what, holds ? 1 : 0, 1);
    }

    private static void checkClass() {
        int kind = NextPaths.class.getModifiers();
        isTrue("public and final", Modifier.isPublic(kind) && Modifier.isFinal(kind));
        isTrue("no package", NextPaths.class.getPackageName().isEmpty());
        Constructor<?>[] all = NextPaths.class.getDeclaredConstructors();
        isTrue("one public constructor without arguments",
            all.length == 1 && Modifier.isPublic(all[0].getModifiers()) && all[0].getParameterCount() == 0);
    }

    private static String told(Method method) {
        StringBuilder text = new StringBuilder(method.getReturnType() + " " + method.getName() + "(");
        for (Class<?> type : method.getParameterTypes()) {
            text.append(text.charAt(text.length() - 1) == '(' ? "" : ",").append(type);
        }
        return text.append(")").toString();
    }

    private static void checkMethods() {
        Set<String> open = new TreeSet<>();
        for (Method method : NextPaths.class.getDeclaredMethods()) {
            if (!Modifier.isPrivate(method.getModifiers())) {
                open.add(told(method));
            }
        }
        isTrue("the methods are those of the document: " + open, open.equals(METHODS));
    }

    private static void checkFields() {
        Set<String> open = new TreeSet<>();
        for (Field field : NextPaths.class.getDeclaredFields()) {
            if (!Modifier.isPrivate(field.getModifiers())) {
                open.add(field.toString());
            } else if (Modifier.isStatic(field.getModifiers())) {
                isTrue("final: " + field, Modifier.isFinal(field.getModifiers()));
            }
        }
        isTrue("the open fields are the three constants: " + open, open.equals(Set.of(
            "public static final int NextPaths.NONE", "public static final int NextPaths.BAD",
            "public static final int NextPaths.FULL")));
        Check.due("NONE", NextPaths.NONE, -1);
        Check.due("BAD", NextPaths.BAD, -2);
        Check.due("FULL", NextPaths.FULL, -3);
    }

    private static void checkNestedNames() {
        Set<String> names = new TreeSet<>();
        for (String method : METHODS) {
            names.add(method.substring(4, method.indexOf('(')));
        }
        for (Class<?> nested : NextPaths.class.getDeclaredClasses()) {
            isTrue("static: " + nested, Modifier.isStatic(nested.getModifiers()));
            for (Method method : nested.getDeclaredMethods()) {
                isTrue("a name of its own: " + method, !names.contains(method.getName()));
            }
        }
    }

    private static String source() throws IOException {
        String code = Files.readString(Path.of("src/main/java/NextPaths.java"));
        return code.replaceAll("(?s)/\\*.*?\\*/", "").replaceAll("//[^\\n]*", "");
    }

    private static void checkSource() throws IOException {
        String code = source();
        for (String word : RULED_OUT) {
            String edge = Character.isLetter(word.charAt(0)) ? "\\b" : "";
            isTrue("the source is without " + word,
                !Pattern.compile(edge + Pattern.quote(word) + edge).matcher(code).find());
        }
        isTrue("the source imports java.util.Arrays at most",
            !Pattern.compile("import (?!java\\.util\\.Arrays;)").matcher(code).find());
    }

    private static void checkDocument() throws IOException {
        String document = Files.readString(Path.of("../shared/DOC.md"));
        checkFaceLines(document, source());
        checkPromiseHeads(document, source());
    }

    /** The names of the parameters too are those of the document. */
    private static void checkFaceLines(String document, String code) {
        String[] parts = document.split("```");
        int lines = 0;
        for (String line : parts.length == 3 ? parts[1].split("\n") : new String[0]) {
            String due = line.strip().replaceAll("\\);$", ") {");
            if (due.startsWith("public")) {
                lines++;
                isTrue("in the source: " + due, code.contains(due));
            }
        }
        Check.due("lines of the face: class, constants, constructor, methods", lines, 3 + METHODS.size());
    }

    private static void checkPromiseHeads(String document, String code) {
        Matcher head = Pattern.compile("(?m)^`([^`]*)`: ").matcher(document);
        int heads = 0;
        while (head.find()) {
            heads++;
            isTrue("in the source: " + head.group(1), code.contains("public " + head.group(1) + " {"));
        }
        Check.due("promises that begin with a constructor or method", heads, 1 + METHODS.size());
    }
}
