import java.lang.reflect.Constructor;
import java.lang.reflect.Field;
import java.lang.reflect.Method;
import java.lang.reflect.Modifier;
import java.nio.charset.StandardCharsets;
import java.nio.file.Files;
import java.nio.file.Path;
import java.util.Arrays;
import java.util.HashSet;
import java.util.Set;
import java.util.TreeSet;
import java.util.regex.Matcher;
import java.util.regex.Pattern;

/** The class's public face is the document's, and its source keeps to the rules of LANGUAGE.md. */
public final class FaceTest {
    private static final String[] FACE = {
        "int write(int)", "int erase()", "int fault(int)", "int frame()", "int run()", "int rod(int, int)", "long number()",
        "int as(int, int)", "int push(int, int, int)", "int stick(int, int)", "int set(int)", "int carry(int)", "int undo()",
        "int keep(int)", "int back(int)", "int ways(int)", "int time(int)", "int pushed(int, int, int)", "long span(int)",
        "int nearest(int)", "int loosen(int)", "int tour(int, int, int, int)", "int seen(int, int, int)", "int forget()",
        "int kinds(int)", "long slips(int, int, int, int)", "int count(int)"};
    private static final String[] WORDS = {"throw", "throws", "try", "catch", "finally", "synchronized", "assert", "Object",
        "System.out", "Random", "Thread", "hashCode", "toString", "interface", "double", "float", "yield", "var"};
    private static int wrong = 0;

    private static void due(String what, boolean holds) {
        if (!holds) {
            wrong++;
            System.out.println("not so: " + what);
        }
    }

    private static String told(Method m) {
        StringBuilder args = new StringBuilder();
        for (Class<?> c : m.getParameterTypes()) {
            args.append(args.length() > 0 ? ", " : "").append(c.getSimpleName());
        }
        return m.getReturnType().getSimpleName() + " " + m.getName() + "(" + args + ")";
    }

    private static void face() throws ReflectiveOperationException {
        Class<RodBeads> c = RodBeads.class;
        due("the class is public and final", Modifier.isPublic(c.getModifiers()) && Modifier.isFinal(c.getModifiers()));
        Set<String> methods = new TreeSet<>();
        Set<String> names = new HashSet<>();
        for (Method m : c.getDeclaredMethods()) {
            if (Modifier.isPublic(m.getModifiers())) {
                methods.add(told(m));
                names.add(m.getName());
                due(m + " is no static one", !Modifier.isStatic(m.getModifiers()));
            } else {
                due(m + " is private", Modifier.isPrivate(m.getModifiers()));
            }
        }
        due("the public methods are the document's: " + methods, methods.equals(new TreeSet<>(Arrays.asList(FACE))));
        Constructor<?>[] made = c.getDeclaredConstructors();
        due("one public constructor", made.length == 1 && Modifier.isPublic(made[0].getModifiers())
                && made[0].getParameterCount() == 0);
        int[] constants = {-1, -2, -3, -4, -5};
        String[] constantNames = {"NONE", "UNKNOWN", "OUTSIDE", "NOT", "FULL"};
        for (int i = 0; i < 5; i++) {
            Field f = c.getField(constantNames[i]);
            due(f + " is " + constants[i], f.getType() == int.class && f.getInt(null) == constants[i]
                    && Modifier.isStatic(f.getModifiers()) && Modifier.isFinal(f.getModifiers()));
        }
        due("five public fields", c.getFields().length == 5);
        fieldsOf(c);
        due("twelve classes at most", c.getDeclaredClasses().length < 12);
        for (Class<?> inner : c.getDeclaredClasses()) {
            due(inner + " is static, private", Modifier.isStatic(inner.getModifiers()) && Modifier.isPrivate(inner.getModifiers()));
            fieldsOf(inner);
            for (Method m : inner.getDeclaredMethods()) {
                due(m + " bears no public method's name", !names.contains(m.getName()));
                due(m + " takes seven at most", m.getParameterCount() <= 7);
            }
        }
        for (Method m : c.getDeclaredMethods()) {
            due(m + " bears no public method's name", Modifier.isPublic(m.getModifiers()) || !names.contains(m.getName()));
            due(m + " takes seven at most", m.getParameterCount() <= 7);
        }
    }

    private static void fieldsOf(Class<?> c) {
        int fields = 0;
        for (Field f : c.getDeclaredFields()) {
            if (Modifier.isStatic(f.getModifiers())) {
                due(f + " is a constant", Modifier.isFinal(f.getModifiers()));
            } else {
                fields++;
                due(f + " of the class is private", c != RodBeads.class || Modifier.isPrivate(f.getModifiers()));
            }
        }
        due(c + " has twenty fields at most", fields <= 20);
    }

    private static void source() throws java.io.IOException {
        String text = Files.readString(Path.of("src/main/java/RodBeads.java"), StandardCharsets.ISO_8859_1);
        due("letters of 1 to 127 alone", text.chars().allMatch(ch -> ch < 128));
        String code = text.replaceAll("(?s)/\\*.*?\\*/", " ").replaceAll("//[^\n]*", " ").replaceAll("\"[^\"\n]*\"", "\"\"");
        for (String word : WORDS) {
            Matcher m = Pattern.compile("\\b" + Pattern.quote(word) + "\\b").matcher(code);
            due("no " + word, !m.find());
        }
        due("no lambda", !code.contains("->"));
        due("no method reference", !code.contains("::"));
        due("no function ending in Exact", !code.contains("Exact("));
        due("no package line", !Pattern.compile("(?m)^\\s*package ").matcher(code).find());
        Matcher imports = Pattern.compile("(?m)^import ([^;]*);").matcher(code);
        while (imports.find()) {
            due("import " + imports.group(1), imports.group(1).equals("java.util.Arrays"));
        }
        longMethods(text);
    }

    /** A method begins at an opened brace of its class's depth, and ends at the closed one. */
    private static void longMethods(String text) {
        String[] lines = text.split("\n");
        for (int i = 0; i < lines.length; i++) {
            Matcher m = Pattern.compile("^( {4}| {8})\\S.*\\) \\{$").matcher(lines[i]);
            if (m.find()) {
                int end = i;
                while (!lines[end].equals(m.group(1) + "}")) {
                    end++;
                }
                due("line " + (i + 1) + " begins a method of sixty lines at most", end - i < 60);
            }
        }
    }

    public static void main(String[] args) throws Exception {
        face();
        source();
        System.out.println(wrong == 0 ? "the face is the document's" : wrong + " things are not so");
        if (wrong != 0) {
            System.exit(1);
        }
    }
}
