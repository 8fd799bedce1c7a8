import java.io.IOException;
import java.lang.reflect.Constructor;
import java.lang.reflect.Field;
import java.lang.reflect.Method;
import java.lang.reflect.Modifier;
import java.nio.file.Files;
import java.nio.file.Path;
import java.util.ArrayList;
import java.util.Arrays;
import java.util.List;
import java.util.Map;
import java.util.Set;
import java.util.TreeMap;
import java.util.TreeSet;
import java.util.regex.Matcher;
import java.util.regex.Pattern;

// The face of the class, and those rules of LANGUAGE.md that can be seen from its text.
public final class LanguageTest {
    private static final String SOURCE = "src/main/java/LawRings.java";
    private static final String[] FACE = {
        "int newCase 1", "int tie 4", "int which 2", "int rule 5", "int test 3", "int strike 2", "int sort 3",
        "int way 2", "int treaty 3", "int holds 2", "int says 3", "int said 3", "int ends 3", "int chain 4",
        "int parts 4", "int endsIn 4", "int unlike 4", "int least 4", "int reached 3", "int same 2", "int dead 2",
        "int trial 1", "int untry 0", "int kindOf 2", "int fewest 0", "int ask 5", "int count 1", "long digest 0" };
    private static final String[] FORBIDDEN = {
        "throw", "throws", "try", "catch", "finally", "synchronized", "assert", "protected", "->", "::", "@",
        "hashCode", "toString", "System\\.(?!arraycopy)", "Object", "Exact", "var", "new Random" };
    private static final int LONGEST_METHOD = 60, DEEPEST_CALL = 8, MOST_FIELDS = 20;

    private static int wrong = 0;

    private static void wrong(String what) {
        wrong++;
        System.out.println(what);
    }

    public static void main(String[] args) throws IOException {
        face();
        nested();
        String text = Files.readString(Path.of(SOURCE));
        words(text);
        lengths(text);
        depths(text);
        objects(text);
        System.out.println(wrong == 0 ? "the face and the language are as due" : wrong + " things are not as due");
        if (wrong != 0) System.exit(1);
    }

    private static void face() {
        Class<LawRings> face = LawRings.class;
        if (!Modifier.isPublic(face.getModifiers()) || !Modifier.isFinal(face.getModifiers())) wrong("not public final");
        Set<String> due = new TreeSet<>(Arrays.asList(FACE));
        Set<String> got = new TreeSet<>();
        Set<String> hidden = new TreeSet<>();
        for (Method m : face.getDeclaredMethods()) {
            if (Modifier.isPublic(m.getModifiers())) {
                got.add(m.getReturnType().getName() + " " + m.getName() + " " + m.getParameterCount());
            } else {
                hidden.add(m.getName());
                if (!Modifier.isPrivate(m.getModifiers())) wrong(m.getName() + " is not private");
            }
        }
        if (!got.equals(due)) wrong("the face is " + got + ", due is " + due);
        for (String f : FACE) {
            if (hidden.contains(f.split(" ")[1])) wrong("a private method bears the name of " + f);
        }
        Constructor<?>[] made = face.getDeclaredConstructors();
        if (made.length != 1 || made[0].getParameterCount() != 0 || !Modifier.isPublic(made[0].getModifiers())) {
            wrong("the constructor is another");
        }
        Set<String> constants = new TreeSet<>();
        for (Field f : face.getDeclaredFields()) {
            if (Modifier.isPublic(f.getModifiers())) constants.add(f.getName());
            else if (!Modifier.isPrivate(f.getModifiers())) wrong(f.getName() + " is not private");
            if (Modifier.isStatic(f.getModifiers()) && !Modifier.isFinal(f.getModifiers())) wrong(f.getName() + " is not final");
        }
        if (!constants.equals(Set.of("NONE", "BAD", "NO", "FULL", "ENDLESS"))) wrong("the constants are " + constants);
    }

    private static void nested() {
        List<Class<?>> classes = new ArrayList<>(Arrays.asList(LawRings.class.getDeclaredClasses()));
        if (classes.size() > 11) wrong("there are " + classes.size() + " classes inside");
        if (fieldsOf(LawRings.class) > MOST_FIELDS) wrong("LawRings has too many fields");
        Set<String> names = new TreeSet<>();
        for (String f : FACE) names.add(f.split(" ")[1]);
        for (Class<?> c : classes) {
            if (!Modifier.isStatic(c.getModifiers())) wrong(c.getName() + " is not static");
            if (fieldsOf(c) > MOST_FIELDS) wrong(c.getName() + " has too many fields");
            for (Method m : c.getDeclaredMethods()) {
                if (m.getParameterCount() > 7) wrong(m.getName() + " takes too much");
                if (names.contains(m.getName())) wrong(c.getName() + " has a method named " + m.getName());
            }
        }
    }

    private static int fieldsOf(Class<?> c) {
        int fields = 0;
        for (Field f : c.getDeclaredFields()) if (!Modifier.isStatic(f.getModifiers())) fields++;
        return fields;
    }

    private static String withoutComments(String text) {
        return text.replaceAll("(?s)/\\*.*?\\*/", "").replaceAll("//[^\n]*", "");
    }

    private static void words(String text) {
        String code = withoutComments(text);
        for (String word : FORBIDDEN) {
            String pattern = word.matches("[A-Za-z ]+") ? "\\b" + word + "\\b" : word;
            if (Pattern.compile(pattern).matcher(code).find()) wrong("the text has " + word);
        }
        Matcher imports = Pattern.compile("import ([^;]+);").matcher(code);
        while (imports.find()) {
            if (!imports.group(1).equals("java.util.Arrays")) wrong("the text imports " + imports.group(1));
        }
        if (code.contains("package ")) wrong("the text has a package line");
        for (char c : text.toCharArray()) if (c > 127) wrong("the text has the sign " + (int) c);
    }

    private static void lengths(String text) {
        for (String[] method : methods(text)) {
            if (method[1].split("\n").length >= LONGEST_METHOD) wrong("the method " + method[0] + " is too long");
        }
    }

    /**
     * Each method's name and its text. A method starts at a line that is indented as a member is and ends
     * in a brace behind a parenthesis, and ends at a brace that is indented as much.
     */
    private static List<String[]> methods(String text) {
        List<String[]> found = new ArrayList<>();
        Pattern first = Pattern.compile("^( {4}| {8})[^ (][^(]*\\b(\\w+)\\(.*\\) \\{$");
        String[] lines = text.split("\n");
        for (int i = 0; i < lines.length; i++) {
            Matcher start = first.matcher(lines[i]);
            if (!start.find() || start.group(2).matches("if|for|while|switch")) continue;
            StringBuilder body = new StringBuilder();
            for (int k = i + 1; k < lines.length && !lines[k].equals(start.group(1) + "}"); k++) {
                body.append(lines[k]).append('\n');
            }
            found.add(new String[] { start.group(2), body.toString() });
        }
        return found;
    }

    /** No method calls itself, by others either, and none goes deeper than is allowed; one name counts as one method. */
    private static void depths(String text) {
        Map<String, Set<String>> calls = new TreeMap<>();
        List<String[]> methods = methods(withoutComments(text));
        for (String[] method : methods) calls.put(method[0], new TreeSet<>());
        for (String[] method : methods) {
            Matcher call = Pattern.compile("\\b(\\w+)\\(").matcher(method[1]);
            while (call.find()) if (calls.containsKey(call.group(1))) calls.get(method[0]).add(call.group(1));
        }
        for (String f : FACE) {
            String name = f.split(" ")[1];
            if (!calls.containsKey(name)) wrong("the method " + name + " was not found in the text");
            else if (depth(calls, name, 1) > DEEPEST_CALL) wrong("calls go too deep from " + name);
        }
    }

    private static int depth(Map<String, Set<String>> calls, String name, int open) {
        if (open > DEEPEST_CALL) return open;
        int deepest = open;
        for (String other : calls.get(name)) deepest = Math.max(deepest, depth(calls, other, open + 1));
        return deepest;
    }

    /** All rows are made with the object: a line that makes one is a field's. */
    private static void objects(String text) {
        for (String line : text.split("\n")) {
            if (!line.matches(".*\\bnew [A-Za-z]+[\\[(].*")) continue;
            if (!line.matches("^( {4}private| {8}) ?final [^=]+ = new .*;$")) wrong("a call makes an object: " + line);
        }
    }
}
