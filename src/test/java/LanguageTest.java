import java.lang.reflect.Constructor;
import java.lang.reflect.Field;
import java.lang.reflect.Method;
import java.lang.reflect.Modifier;
import java.io.PrintWriter;
import java.io.StringWriter;
import java.nio.file.Files;
import java.nio.file.Path;
import java.util.ArrayList;
import java.util.List;
import java.util.Map;
import java.util.Optional;
import java.util.Set;
import java.util.TreeMap;
import java.util.TreeSet;
import java.util.regex.Matcher;
import java.util.regex.Pattern;
import java.util.spi.ToolProvider;

/** The face of the document, and what of LANGUAGE.md can be seen by looking. */
public final class LanguageTest {
    private static final String[] FACE = {
        "int row(int,int,int)", "int set(int,int,int)", "int copy(int,int,int,int,int)", "int drop(int)",
        "int feed(int)", "int yard()", "int fault()", "int undo()", "int lift(int,int)", "int loosen(int)",
        "int fall(int)", "int space(int,int)", "int bike(int,int)", "int hold(int,int)", "int takes(int,int,int)",
        "int stand(int)", "int soonest(int,int)", "int gentlest(int,int)", "int never(int)", "int fetch(int)",
        "int layer(int)", "int fell(int,int)", "int first(int,int)", "int widen(int,int)",
        "int plan(int,int,int,int)", "int who(int,int,int,int)", "long seen(int,int,int,int)",
        "int drawn(int,int,int)", "int image(int)", "int restore(int)", "int kind(int)", "int as(int,int)",
        "int ask(int,int)", "int trace(int)", "int count(int)", "int status()",
    };

    public static void main(String[] args) throws Exception {
        String text = Files.readString(Path.of("src/main/java/NineDown.java"));
        Due.test("Language: the face", LanguageTest::face);
        Due.test("Language: the classes inside", LanguageTest::classes);
        Due.test("Language: the words", () -> source(text));
        Due.test("Language: calls at most eight deep", LanguageTest::depth);
        Due.end();
    }

    private static void is(String what, boolean so) {
        Due.due(what, so ? 1 : 0, 1);
    }

    private static String shown(Method m) {
        StringBuilder t = new StringBuilder(m.getReturnType().getName()).append(' ').append(m.getName()).append('(');
        for (Class<?> p : m.getParameterTypes()) {
            t.append(t.charAt(t.length() - 1) == '(' ? "" : ",").append(p.getName());
        }
        return t.append(')').toString();
    }

    private static void face() {
        TreeSet<String> wanted = new TreeSet<>(java.util.List.of(FACE));
        TreeSet<String> there = new TreeSet<>();
        TreeSet<String> names = new TreeSet<>();
        for (Method m : NineDown.class.getDeclaredMethods()) {
            if (Modifier.isPublic(m.getModifiers())) {
                there.add(shown(m));
                names.add(m.getName());
            }
        }
        is("the public methods are " + wanted + ", not " + there, wanted.equals(there));
        for (Method m : NineDown.class.getDeclaredMethods()) {
            boolean open = Modifier.isPublic(m.getModifiers());
            is(m + " is public or private", open || Modifier.isPrivate(m.getModifiers()));
            is(m + " has a name of its own", open || !names.contains(m.getName()));
        }
        for (Class<?> c : NineDown.class.getDeclaredClasses()) {
            for (Method m : c.getDeclaredMethods()) {
                is(m + " has a name of its own", !names.contains(m.getName()));
            }
        }
        Constructor<?>[] made = NineDown.class.getDeclaredConstructors();
        is("one public constructor", made.length == 1 && Modifier.isPublic(made[0].getModifiers()));
        is("public and final", NineDown.class.getModifiers() == (Modifier.PUBLIC | Modifier.FINAL));
        int constants = 0;
        for (Field f : NineDown.class.getDeclaredFields()) {
            boolean open = Modifier.isPublic(f.getModifiers());
            constants += open ? 1 : 0;
            is(f + " is public or private", open || Modifier.isPrivate(f.getModifiers()));
        }
        is("four public constants", constants == 4);
        Due.due("NONE", NineDown.NONE, -1000000);
        Due.due("BAD", NineDown.BAD, -1000001);
        Due.due("STATE", NineDown.STATE, -1000002);
        Due.due("FULL", NineDown.FULL, -1000003);
    }

    private static void classes() {
        Class<?>[] inside = NineDown.class.getDeclaredClasses();
        is("at most twelve classes", inside.length + 1 <= 12);
        for (Class<?> c : inside) {
            is(c + " is static", Modifier.isStatic(c.getModifiers()));
            is(c + " is private or package-visible", (c.getModifiers() & (Modifier.PUBLIC | Modifier.PROTECTED)) == 0);
            is(c + " has none inside", c.getDeclaredClasses().length == 0);
        }
        for (Class<?> c : all()) {
            int fields = 0;
            for (Field f : c.getDeclaredFields()) {
                boolean fixed = Modifier.isStatic(f.getModifiers());
                fields += fixed ? 0 : 1;
                is(f + " is final", !fixed || Modifier.isFinal(f.getModifiers()));
                is(f + " is a constant of int", !fixed || f.getType() == int.class);
            }
            is(c + " has at most twenty fields", fields <= 20);
            for (Method m : c.getDeclaredMethods()) {
                is(m + " takes at most seven", m.getParameterCount() <= 7);
            }
        }
    }

    private static void source(String text) {
        String code = text.replaceAll("(?s)/\\*.*?\\*/", " ").replaceAll("//[^\n]*", " ");
        String[] banned = {
            "\\bthrow\\b", "\\bthrows\\b", "\\btry\\b", "\\bcatch\\b", "\\bsynchronized\\b", "\\bassert\\b",
            "->", "::", "\\bimport\\b", "\\bpackage\\b", "@", "Exact\\b",
            "\\bObject\\b", "\\bSystem\\.(?!arraycopy)", "\\bstatic\\s*\\{", "\"",
        };
        for (String pattern : banned) {
            Matcher found = Pattern.compile(pattern).matcher(code);
            is("no " + pattern, !found.find());
        }
        for (int i = 0; i < text.length(); i++) {
            if (text.charAt(i) > 127) {
                is("sign " + i + " is none of 1 to 127", false);
            }
        }
        lengths(code);
    }

    private static void lengths(String code) {
        Map<String, Integer> lengths = new TreeMap<>();
        String[] lines = code.split("\n");
        Pattern head = Pattern.compile("^( {4}| {8})\\S.*\\) \\{$");
        for (int i = 0; i < lines.length; i++) {
            Matcher m = head.matcher(lines[i]);
            int end = i;
            while (m.matches() && !lines[end].equals(m.group(1) + "}")) {
                end++;
            }
            lengths.put(lines[i] + i, end - i + 1);
        }
        for (Map.Entry<String, Integer> one : lengths.entrySet()) {
            is(one.getKey() + " has " + one.getValue() + " lines", one.getValue() <= 60);
        }
    }

    /** How deep calls go, by the class files; a call of a method that is overridden may be any of them. */
    private static void depth() {
        Optional<ToolProvider> javap = ToolProvider.findFirst("javap");
        if (javap.isEmpty()) {
            is("without javap it can not be seen", true);
            return;
        }
        String from = NineDown.class.getProtectionDomain().getCodeSource().getLocation().getPath();
        Map<String, Set<String>> calls = new TreeMap<>();
        for (Class<?> c : all()) {
            StringWriter out = new StringWriter();
            javap.get().run(new PrintWriter(out), new PrintWriter(out), "-c", "-p", "-cp", from, c.getName());
            note(c.getName(), out.toString(), calls);
        }
        int deepest = 0;
        for (String method : calls.keySet()) {
            int deep = deep(method, calls, 0);
            is("calls from " + method + " go " + deep + " deep", deep <= 8);
            deepest = Math.max(deepest, deep);
        }
        is("calls were found", deepest > 3);
    }

    private static List<Class<?>> all() {
        List<Class<?>> all = new ArrayList<>(List.of(NineDown.class.getDeclaredClasses()));
        all.add(NineDown.class);
        return all;
    }

    private static void note(String name, String code, Map<String, Set<String>> calls) {
        Pattern head = Pattern.compile("^  .*?(\\S+)\\(.*\\);$");
        Pattern call = Pattern.compile("(invoke\\w+) .*// Method (?:([\\w$/]+)\\.)?\"?([\\w<>]+)\"?:");
        String at = "";
        for (String line : code.split("\n")) {
            Matcher begins = head.matcher(line);
            Matcher calling = call.matcher(line);
            if (begins.matches()) {
                at = name + "." + (begins.group(1).equals(name) ? "<init>" : begins.group(1));
                calls.put(at, new TreeSet<>());
            } else if (calling.find()) {
                String of = calling.group(2) == null ? name : calling.group(2);
                boolean may = calling.group(1).equals("invokevirtual");
                for (Class<?> c : all()) {
                    boolean same = c.getName().equals(of);
                    if (same || may && extendsOne(c, of)) {
                        calls.get(at).add(c.getName() + "." + calling.group(3));
                    }
                }
            }
        }
    }

    private static boolean extendsOne(Class<?> c, String name) {
        Class<?> up = c.getSuperclass();
        return up != null && (up.getName().equals(name) || extendsOne(up, name));
    }

    private static int deep(String method, Map<String, Set<String>> calls, int so) {
        int most = 0;
        if (so > 50) {
            return 1000;
        }
        for (String called : calls.getOrDefault(method, Set.of())) {
            most = Math.max(most, deep(called, calls, so + 1));
        }
        return calls.containsKey(method) ? most + 1 : most;
    }
}
