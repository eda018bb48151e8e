import java.io.IOException;
import java.lang.reflect.Array;
import java.lang.reflect.Field;
import java.lang.reflect.Method;
import java.lang.reflect.Modifier;
import java.nio.file.Files;
import java.nio.file.Path;
import java.util.ArrayList;
import java.util.Collections;
import java.util.IdentityHashMap;
import java.util.List;
import java.util.Set;
import java.util.TreeSet;
import java.util.regex.Matcher;
import java.util.regex.Pattern;
import java.util.stream.Stream;

/**
 * The rules of LANGUAGE.md that can be seen in the source and in the compiled class. It is stricter than they are where
 * the class needs less: no library at all, and nothing made outside a constructor.
 */
public final class LanguageTest {
    private static final Path MAIN = Path.of("src/main/java");
    private static final String[] NO_WORDS = {
        "package", "import", "throw", "throws", "try", "catch", "finally", "synchronized", "assert", "volatile", "native", "transient",
        "protected", "double", "float", "var", "record", "yield"};
    private static final int MOST_CLASSES = 12;
    private static final int MOST_FIELDS = 20;
    private static final int MOST_PARAMETERS = 7;
    private static final int MOST_LINES = 60;
    private static final int MOST_OBJECTS = 10;
    private static final int MOST_ELEMENTS = 1000;

    private static final List<Class<?>> CLASSES = new ArrayList<>();

    public static void main(String[] args) throws Exception {
        CLASSES.add(FloppyDesk.class);
        Collections.addAll(CLASSES, FloppyDesk.class.getDeclaredClasses());
        String code = withoutComments(Files.readString(MAIN.resolve("FloppyDesk.java")));
        oneFile();
        words(code);
        names(code);
        classesInside();
        fields();
        methods();
        lengthsOfMethods(code);
        nothingIsMadeOutsideConstructors(code);
        sizeOfAnObject();
        Probe.finish("LanguageTest");
    }

    private static void due(String what, boolean holds) {
        Probe.due(what, holds ? 1 : 0, 1);
    }

    private static String withoutComments(String text) {
        return text.replaceAll("(?s)/\\*.*?\\*/", "").replaceAll("//[^\n]*", "");
    }

    private static void oneFile() throws IOException {
        try (Stream<Path> all = Files.walk(MAIN)) {
            due("one file", all.filter(Files::isRegularFile).count() == 1);
        }
    }

    private static void words(String code) {
        for (String word : NO_WORDS) {
            due("rules 3, 4 and 6: no " + word, !Pattern.compile("\\b" + word + "\\b").matcher(code).find());
        }
        due("rule 2: no lambda", !code.contains("->"));
        due("rule 2: no method reference", !code.contains("::"));
        due("no text is needed", !code.contains("\""));
        due("rule 5: no static initialiser block", !Pattern.compile("\\bstatic\\s*\\{").matcher(code).find());
        due("rule 9: no while, so each loop counts", !Pattern.compile("\\bwhile\\b").matcher(code).find());
        due("rule 9: no for without its three parts", !Pattern.compile("for \\((?![^;)]+;[^;)]+;[^;)]+\\))").matcher(code).find());
        due("rule 7: no divisor", !code.contains("/") && !code.contains("%"));
    }

    /** A name that begins with a capital letter and has small ones is a class: only its own are used. */
    private static void names(String code) {
        Set<String> own = new TreeSet<>();
        for (Class<?> c : CLASSES) {
            own.add(c.getSimpleName());
        }
        Matcher used = Pattern.compile("\\b[A-Z][A-Za-z]*[a-z][A-Za-z]*\\b").matcher(code);
        while (used.find()) {
            due("rule 4: no library, " + used.group(), own.contains(used.group()));
        }
    }

    private static void classesInside() {
        due("rule 11: some twelve classes", CLASSES.size() <= MOST_CLASSES);
        for (Class<?> c : CLASSES.subList(1, CLASSES.size())) {
            int mods = c.getModifiers();
            due("rule 1: " + c + " is static", Modifier.isStatic(mods));
            due("rule 1: " + c + " is not seen from outside", !Modifier.isPublic(mods) && !Modifier.isProtected(mods));
            due("rule 2: no class inside " + c, c.getDeclaredClasses().length == 0);
            due(c + " extends nothing", c.getSuperclass() == Object.class && c.getInterfaces().length == 0);
        }
        due("rule 2: no local or anonymous class", FloppyDesk.class.getResource("FloppyDesk$1.class") == null);
    }

    private static void fields() {
        for (Class<?> c : CLASSES) {
            int held = 0;
            for (Field f : c.getDeclaredFields()) {
                if (Modifier.isStatic(f.getModifiers())) {
                    due("rule 5: " + f + " is a constant of int", Modifier.isFinal(f.getModifiers()) && f.getType() == int.class);
                } else {
                    held++;
                    due("rule 1: " + f + " is private", Modifier.isPrivate(f.getModifiers()));
                }
            }
            due("rule 11: fields of " + c, held <= MOST_FIELDS);
        }
    }

    private static void methods() {
        Set<String> open = new TreeSet<>();
        for (Method m : FloppyDesk.class.getDeclaredMethods()) {
            if (Modifier.isPublic(m.getModifiers())) {
                open.add(m.getName());
            }
        }
        for (Class<?> c : CLASSES) {
            for (Method m : c.getDeclaredMethods()) {
                due("rule 11: parameters of " + m, m.getParameterCount() <= MOST_PARAMETERS);
                due("rule 1: " + m + " bears the name of a public one", Modifier.isPublic(m.getModifiers()) || !open.contains(m.getName()));
                due("rule 6: " + m + " declares no exception", m.getExceptionTypes().length == 0);
            }
        }
    }

    /** A method begins with a line that is set in by 4 or 8 and ends with a brace, and ends with a brace set in as deep. */
    private static void lengthsOfMethods(String code) {
        String[] lines = code.split("\n");
        int found = 0;
        for (int i = 0; i < lines.length; i++) {
            Matcher head = Pattern.compile("( {4}| {8})\\w.*\\) \\{").matcher(lines[i]);
            if (head.matches() && !lines[i].matches(" *(if|for|switch|else) .*")) {
                int end = i;
                while (end < lines.length && !lines[end].equals(head.group(1) + "}")) {
                    end++;
                }
                found++;
                due("rule 11: lines of" + lines[i], end - i < MOST_LINES);
            }
        }
        int methods = 0;
        for (Class<?> c : CLASSES) {
            methods += c.getDeclaredMethods().length;
        }
        due("all methods were found", found >= methods);
    }

    private static void nothingIsMadeOutsideConstructors(String code) {
        Matcher made = Pattern.compile("(\\w+)\\s*=\\s*new\\b").matcher(code);
        Set<String> places = new TreeSet<>();
        while (made.find()) {
            places.add(made.group(1));
        }
        Set<String> finals = new TreeSet<>();
        for (Class<?> c : CLASSES) {
            for (Field f : c.getDeclaredFields()) {
                // A final field is set in the constructor alone, and but once.
                if (!Modifier.isStatic(f.getModifiers()) && Modifier.isFinal(f.getModifiers()) && !f.getType().isPrimitive()) {
                    finals.add(f.getName());
                }
            }
        }
        due("rule 12: what is made is held by final fields", finals.containsAll(places));
        Matcher all = Pattern.compile("\\bnew\\b").matcher(code);
        int count = 0;
        while (all.find()) {
            count++;
        }
        due("rule 12: each new stands behind such a field", count == places.size());
    }

    private static void sizeOfAnObject() throws IllegalAccessException {
        Set<Object> objects = Collections.newSetFromMap(new IdentityHashMap<>());
        int elements = count(new FloppyDesk(), objects);
        due("objects and arrays of a FloppyDesk: " + objects.size(), objects.size() <= MOST_OBJECTS);
        due("fields and elements of a FloppyDesk: " + elements, elements <= MOST_ELEMENTS);
    }

    private static int count(Object o, Set<Object> seen) throws IllegalAccessException {
        if (o == null || !seen.add(o)) {
            return 0;
        }
        if (o.getClass().isArray()) {
            return Array.getLength(o);
        }
        int elements = 0;
        for (Field f : o.getClass().getDeclaredFields()) {
            if (!Modifier.isStatic(f.getModifiers())) {
                elements++;
                f.setAccessible(true);
                elements += f.getType().isPrimitive() ? 0 : count(f.get(o), seen);
            }
        }
        return elements;
    }
}
