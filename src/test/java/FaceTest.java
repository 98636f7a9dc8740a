import java.io.IOException;
import java.lang.reflect.Constructor;
import java.lang.reflect.Field;
import java.lang.reflect.Method;
import java.lang.reflect.Modifier;
import java.nio.file.Files;
import java.nio.file.Path;
import java.util.Map;
import java.util.Set;
import java.util.TreeMap;
import java.util.TreeSet;
import java.util.regex.Matcher;
import java.util.regex.Pattern;

/** The public face as the document writes it, and those rules of LANGUAGE.md that a look at the source can tell. */
public final class FaceTest {
    private static final Set<String> METHODS = Set.of(
        "write(long,int)", "erase()", "fault()", "bounds()", "strike(int)", "bound(int,int)", "may(int,int)", "why(int,int)",
        "who(int)", "works(int,int)", "step(int,int,int)", "clear(int)", "price(int,int,int)", "days(int,int)", "carry(int)",
        "judge(int,int,int)", "told(int,int,int,int)", "can(int,int)", "fewest(int,int)", "best(int,int,int)",
        "way(int,int,int,int)", "alone(int)", "sly(int,int,int)", "struck(int,int)", "takes(int,int,int)", "idle()",
        "seize(int,int,int)", "right(int)", "year(int)", "yearly(int)", "count(int)");

    private static int wrong = 0;

    public static void main(String[] args) throws IOException {
        face();
        nested();
        source(Files.readString(Path.of("src/main/java/WhoseWork.java")));
        System.out.println(wrong == 0 ? "the face is as due" : wrong + " things are not as due");
        if (wrong != 0) {
            System.exit(1);
        }
    }

    private static void due(boolean holds, String what) {
        if (!holds) {
            wrong++;
            System.out.println("not as due: " + what);
        }
    }

    private static void face() {
        Class<?> c = WhoseWork.class;
        due(Modifier.isPublic(c.getModifiers()) && Modifier.isFinal(c.getModifiers()), "the class is public and final");
        Set<String> found = new TreeSet<>();
        for (Method m : c.getDeclaredMethods()) {
            boolean open = !Modifier.isPrivate(m.getModifiers());
            if (open) {
                StringBuilder row = new StringBuilder();
                for (Class<?> p : m.getParameterTypes()) {
                    row.append(row.length() == 0 ? "" : ",").append(p.getName());
                }
                found.add(m.getName() + "(" + row + ")");
                due(Modifier.isPublic(m.getModifiers()) && m.getReturnType() == int.class, m.toString());
            }
        }
        due(found.equals(new TreeSet<>(METHODS)), "the methods " + found);
        Set<String> constants = new TreeSet<>();
        for (Field f : c.getDeclaredFields()) {
            if (!Modifier.isPrivate(f.getModifiers())) {
                constants.add(f.getName());
                int open = Modifier.PUBLIC | Modifier.STATIC | Modifier.FINAL;
                due(f.getModifiers() == open && f.getType() == int.class, f + " is a public constant of int");
            }
        }
        due(constants.equals(new TreeSet<>(Set.of("NONE", "UNKNOWN", "OUTSIDE", "NOT", "FULL"))), "the constants " + constants);
        int[] values = {WhoseWork.NONE, WhoseWork.UNKNOWN, WhoseWork.OUTSIDE, WhoseWork.NOT, WhoseWork.FULL};
        for (int i = 0; i < values.length; i++) {
            due(values[i] == -1 - i, "the constants' values: NONE -1, UNKNOWN -2, OUTSIDE -3, NOT -4, FULL -5");
        }
        Constructor<?>[] made = c.getDeclaredConstructors();
        due(made.length == 1 && Modifier.isPublic(made[0].getModifiers()) && made[0].getParameterCount() == 0, "the constructor");
    }

    private static void nested() {
        Class<?>[] inside = WhoseWork.class.getDeclaredClasses();
        due(inside.length <= 12, "at most twelve classes");
        Set<String> open = new TreeSet<>();
        for (String method : METHODS) {
            open.add(method.substring(0, method.indexOf('(')));
        }
        for (Class<?> c : inside) {
            due(Modifier.isStatic(c.getModifiers()) && !Modifier.isPublic(c.getModifiers()), c + " is static and not public");
            int fields = 0;
            for (Field f : c.getDeclaredFields()) {
                fields += Modifier.isStatic(f.getModifiers()) ? 0 : 1;
                due(!Modifier.isStatic(f.getModifiers()) || Modifier.isFinal(f.getModifiers()), f + " is final, if static");
            }
            due(fields <= 20, c + " has at most twenty fields");
            for (Method m : c.getDeclaredMethods()) {
                due(!open.contains(m.getName()), m + " bears no name of the face");
                due(m.getParameterCount() <= 7, m + " takes at most seven parameters");
            }
        }
    }

    private static void source(String source) {
        String code = source
            .replaceAll("(?s)/\\*.*?\\*/", " ")
            .replaceAll("//[^\n]*", " ")
            .replaceAll("\"[^\"\n]*\"", "\"\"");
        String[] banned = {"throw", "throws", "try", "catch", "synchronized", "assert", "package", "instanceof Object",
            "double", "float", "hashCode", "toString", "Random", "System.nanoTime", "Thread", "->", "::", "Object"};
        for (String word : banned) {
            boolean letters = Character.isLetter(word.charAt(0));
            Pattern p = Pattern.compile(letters ? "\\b" + Pattern.quote(word) + "\\b" : Pattern.quote(word));
            due(!p.matcher(code).find(), "no '" + word + "' in the source");
        }
        Matcher imports = Pattern.compile("import ([^;]*);").matcher(code);
        while (imports.find()) {
            due(Set.of("java.util.Arrays", "java.util.ArrayList", "java.util.List").contains(imports.group(1)), imports.group());
        }
        Matcher calls = Pattern.compile("\\b(Arrays|System|Integer|Long|Math)\\.(\\w+)").matcher(code);
        Set<String> library = Set.of("Arrays.fill", "System.arraycopy", "Integer.bitCount", "Integer.numberOfTrailingZeros",
            "Integer.numberOfLeadingZeros", "Math.min", "Math.max", "Math.abs");
        while (calls.find()) {
            due(library.contains(calls.group()), calls.group() + " is in the library that the rules leave");
        }
        longMethods(source);
        deepCalls(code);
    }

    /** Which methods' names stand in which methods; the library's are one call more. */
    private static void deepCalls(String code) {
        Map<String, Set<String>> calls = new TreeMap<>();
        String in = "";
        for (String line : code.split("\n")) {
            Matcher head = Pattern.compile("^(?: {4}| {8})(?! )[\\w\\[\\] ]*?\\b(\\w+)\\([^()]*\\) \\{$").matcher(line);
            if (head.find()) {
                in = head.group(1);
                calls.put(in, new TreeSet<>());
            } else if (!in.isEmpty()) {
                Matcher called = Pattern.compile("\\b(?<!new )((?:Integer|Math|Arrays|System)\\.)?(\\w+)\\(").matcher(line);
                while (called.find()) {
                    calls.get(in).add(called.group(1) == null ? called.group(2) : "library");
                }
            }
        }
        due(calls.size() > METHODS.size() && calls.containsKey("fault"), "the methods are found, " + calls.keySet());
        for (String method : calls.keySet()) {
            int depth = depthOf(method, calls, 0);
            due(depth <= 8, "calls at most eight deep: " + method + " goes " + depth);
        }
    }

    private static int depthOf(String method, Map<String, Set<String>> calls, int above) {
        int deepest = 0;
        if (above < 20) {
            for (String called : calls.getOrDefault(method, Set.of())) {
                if (calls.containsKey(called) || called.equals("library")) {
                    deepest = Math.max(deepest, depthOf(called, calls, above + 1));
                }
            }
        }
        return 1 + deepest;
    }

    private static void longMethods(String source) {
        String[] lines = source.split("\n");
        for (int i = 0; i < lines.length; i++) {
            Matcher head = Pattern.compile("^( {4}| {8})(public|private|static|int|long|void|boolean|[A-Z]\\w*)\\b.*\\) \\{$").matcher(lines[i]);
            if (head.find()) {
                int end = i;
                while (end < lines.length && !lines[end].equals(head.group(1) + "}")) {
                    end++;
                }
                due(end - i <= 60, "a method of at most sixty lines: " + lines[i].trim());
            }
        }
    }
}
