import java.lang.reflect.Array;
import java.lang.reflect.Constructor;
import java.lang.reflect.Field;
import java.lang.reflect.Method;
import java.lang.reflect.Modifier;
import java.nio.file.Files;
import java.nio.file.Path;
import java.util.ArrayList;
import java.util.Arrays;
import java.util.Collections;
import java.util.IdentityHashMap;
import java.util.List;
import java.util.Set;
import java.util.TreeSet;
import java.util.regex.Matcher;
import java.util.regex.Pattern;

/** The public face is the document's, the source keeps to what LANGUAGE.md leaves, and a run to its room. */
public final class FaceTests {
    private static final String[] FACE = {
        "int write(int, long)", "int wipe()", "int fault(boolean)", "int make()", "int rule(int)",
        "int level(int, int)", "int week(int, int)", "int aged(int, int)", "int about(int)",
        "int may(int, int, int)", "int then(int, int, int)", "int costs(int, int, int, int)",
        "int work(int, int, int, int, boolean)", "long sunday(int, int, boolean)", "int takes(int, int, int)",
        "long mean(int, int, int, int, boolean)", "long shortly(int, int, boolean)", "long idle(int, int, boolean)",
        "long there(int, int, int, boolean)", "int cheapest()", "long best(int, int, int, boolean)",
        "int bestAct(int, int, int)", "int shape(int)", "int against(int, int)", "long without(int, boolean)",
        "int act(int)", "int gone(int)", "int live(int)", "int keep(int)", "int again(int)", "int tell(int, int)",
        "int untell()", "int judge()", "int paid()", "long luck(boolean)", "int worst()", "int count(int)"};
    private static final String[] RULED_OUT = {
        "\\bthrow", "\\btry\\b", "\\bcatch\\b", "\\bsynchronized\\b", "\\bassert\\b", "->", "::", "Exact\\b",
        "\\bdouble\\b", "\\bfloat\\b", "\\bSystem\\.(?!arraycopy)", "\\bRandom\\b", "\\bThread\\b", "\\bMath\\.random",
        "\\bprotected\\b", "\\bvar\\b", "@", "\\bpackage\\b", "[^\\x00-\\x7F]", "\\bwhile\\s*\\(\\s*true",
        "Arrays\\.(?!fill|copyOf)"};

    private static int wrong = 0;

    private static void check(boolean holds, String what) {
        if (!holds) {
            wrong++;
            System.out.println(what);
        }
    }

    private static String signature(Method m) {
        List<String> types = new ArrayList<>();
        for (Class<?> type : m.getParameterTypes()) {
            types.add(type.getSimpleName());
        }
        return m.getReturnType().getSimpleName() + " " + m.getName() + "(" + String.join(", ", types) + ")";
    }

    private static void face() throws Exception {
        Class<?> c = StillInAugust.class;
        check(Modifier.isPublic(c.getModifiers()) && Modifier.isFinal(c.getModifiers()), "the class is public, final");
        Constructor<?>[] made = c.getDeclaredConstructors();
        check(made.length == 1 && made[0].getParameterCount() == 0 && Modifier.isPublic(made[0].getModifiers()),
                "one public constructor without parameters");
        Set<String> open = new TreeSet<>();
        Set<String> names = new TreeSet<>();
        for (Method m : c.getDeclaredMethods()) {
            if (!Modifier.isPrivate(m.getModifiers())) {
                check(Modifier.isPublic(m.getModifiers()), m + " is public");
                open.add(signature(m));
                names.add(m.getName());
            }
        }
        check(open.equals(new TreeSet<>(Arrays.asList(FACE))), "the public methods are the document's: " + open);
        constants(c);
        for (Class<?> inside : c.getDeclaredClasses()) {
            check(Modifier.isStatic(inside.getModifiers()) && !Modifier.isPublic(inside.getModifiers()),
                    inside + " is static and not public");
            for (Method m : inside.getDeclaredMethods()) {
                check(!names.contains(m.getName()), m + " bears the name of a public one");
            }
        }
        for (Method m : c.getDeclaredMethods()) {
            check(!Modifier.isPrivate(m.getModifiers()) || !names.contains(m.getName()),
                    m + " bears the name of a public one");
            check(m.getParameterCount() <= 7, m + " takes at most seven parameters");
        }
        check(c.getDeclaredClasses().length < 12, "at most twelve classes");
    }

    private static void constants(Class<?> c) throws Exception {
        String[] names = {"UNKNOWN", "OUTSIDE", "STATE", "FULL", "NONE"};
        int[] numbers = {-1, -2, -3, -4, -9};
        Set<String> open = new TreeSet<>();
        for (Field f : c.getDeclaredFields()) {
            if (!Modifier.isPrivate(f.getModifiers())) {
                open.add(f.getName());
            }
            check(!Modifier.isStatic(f.getModifiers()) || Modifier.isFinal(f.getModifiers()), f + " is final");
        }
        check(open.equals(new TreeSet<>(Arrays.asList(names))), "the constants are the document's: " + open);
        for (int i = 0; i < names.length; i++) {
            Field f = c.getField(names[i]);
            check(f.getType() == int.class && Modifier.isFinal(f.getModifiers()) && f.getInt(null) == numbers[i],
                    names[i] + " is " + numbers[i]);
        }
    }

    private static void source() throws Exception {
        String all = Files.readString(Path.of("src/main/java/StillInAugust.java"));
        String code = all.replaceAll("(?s)/\\*.*?\\*/", " ").replaceAll("//[^\n]*", " ");
        for (String ruledOut : RULED_OUT) {
            Matcher found = Pattern.compile(ruledOut).matcher(code);
            check(!found.find(), "ruled out: " + ruledOut);
        }
        Matcher imports = Pattern.compile("(?m)^import (.*);").matcher(code);
        while (imports.find()) {
            check(imports.group(1).equals("java.util.Arrays"), "import of " + imports.group(1));
        }
        // all calls of a run live in one room: only fields and constructors make anything
        for (String line : code.split("\n")) {
            check(!line.matches(".*\\bnew\\b.*") || line.matches("\\s*(private )?final .*;")
                    || line.contains("cursor = new Cursor(text)"), "a call makes an object: " + line.trim());
        }
        shortMethods(code);
    }

    private static void shortMethods(String code) {
        int length = 0;
        for (String line : code.split("\n")) {
            boolean opens = line.matches(" {4,8}[a-z][^=]*\\) \\{");
            length = opens ? 1 : length + 1;
            boolean closes = line.matches(" {4,8}\\}");
            check(!closes || length <= 60 || line.matches(" {4}\\}"), "a method is longer than 60 lines: " + length);
        }
    }

    /** All objects and arrays that one holds, itself too. */
    private static void gather(Object one, Set<Object> found) throws Exception {
        if (one == null || !found.add(one) || one.getClass().isArray()) {
            return;
        }
        for (Field f : one.getClass().getDeclaredFields()) {
            if (!Modifier.isStatic(f.getModifiers()) && !f.getType().isPrimitive()) {
                f.setAccessible(true);
                gather(f.get(one), found);
            }
        }
    }

    private static int fieldsOf(Object one) {
        int fields = 0;
        for (Field f : one.getClass().getDeclaredFields()) {
            fields += Modifier.isStatic(f.getModifiers()) ? 0 : 1;
        }
        return fields;
    }

    /** No call makes anything, so the most that a run can make is an object anew in each of its 512 calls. */
    private static void room() throws Exception {
        Set<Object> found = Collections.newSetFromMap(new IdentityHashMap<>());
        gather(new StillInAugust(), found);
        long elements = 0;
        for (Object one : found) {
            elements += one.getClass().isArray() ? Array.getLength(one) : fieldsOf(one);
            check(one.getClass().isArray() || fieldsOf(one) <= 20, one.getClass() + " has more than 20 fields");
        }
        check(512L * found.size() <= 600_000, "512 objects made are too many: " + found.size() + " each");
        check(512 * elements <= 7_300_000, "512 objects made take too much room: " + elements + " each");
    }

    public static void main(String[] args) throws Exception {
        face();
        source();
        room();
        System.out.println(wrong == 0 ? "the face and the source are as due" : wrong + " faults");
        if (wrong != 0) {
            System.exit(1);
        }
    }
}
