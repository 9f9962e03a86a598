import java.io.ByteArrayOutputStream;
import java.io.OutputStream;
import java.io.PrintStream;
import java.net.URI;
import java.nio.file.Files;
import java.nio.file.Path;
import java.util.ArrayList;
import java.util.HashMap;
import java.util.List;
import java.util.Map;
import java.util.TreeMap;
import java.util.concurrent.ExecutorService;
import java.util.concurrent.Executors;
import java.util.concurrent.Future;
import java.util.regex.Matcher;
import java.util.regex.Pattern;
import javax.tools.FileObject;
import javax.tools.ForwardingJavaFileManager;
import javax.tools.JavaCompiler;
import javax.tools.JavaFileManager;
import javax.tools.JavaFileObject;
import javax.tools.SimpleJavaFileObject;
import javax.tools.ToolProvider;

/**
 * Breaks src/main/java/NineDown.java at one place after another and has the tests tell which break they see.
 * Usage: java -Ddue.stops=true -cp CLASSES Mutants CLASSES TEST [TEST ..], CLASSES being where the tests are compiled to.
 * It prints the breaks that no test saw: each is either no break at all, or wants a test.
 */
public final class Mutants {
    private static final long PATIENCE = 30_000;

    private record Break(int at, int length, String put) {
    }

    private static Path classes;
    private static List<String> tests;

    public static void main(String[] args) throws Exception {
        classes = Path.of(args[0]);
        tests = List.of(args).subList(1, args.length);
        String source = Files.readString(Path.of("src/main/java/NineDown.java"));
        List<Break> breaks = breaks(source);
        PrintStream shown = System.out;
        System.setOut(new PrintStream(OutputStream.nullOutputStream()));
        ExecutorService many = Executors.newFixedThreadPool(Runtime.getRuntime().availableProcessors());
        List<Future<String>> ends = new ArrayList<>();
        for (Break one : breaks) {
            ends.add(many.submit(() -> end(source, one)));
        }
        Map<String, Integer> counts = new TreeMap<>();
        for (int i = 0; i < breaks.size(); i++) {
            String end = ends.get(i).get();
            String sort = end.startsWith("seen") ? "seen" : end;
            counts.merge(sort, 1, Integer::sum);
            if (end.equals("not seen")) {
                shown.println(tell(source, breaks.get(i)));
            }
        }
        many.shutdown();
        shown.println(counts);
        System.exit(0);
    }

    private static String tell(String source, Break one) {
        int line = (int) source.substring(0, one.at).chars().filter(c -> c == '\n').count() + 1;
        int from = source.lastIndexOf('\n', one.at) + 1;
        int to = source.indexOf('\n', one.at);
        String was = source.substring(one.at, one.at + one.length);
        return line + ": " + source.substring(from, to).strip() + "   [" + was.strip() + "] -> [" + one.put + "]";
    }

    private static String end(String source, Break one) {
        String broken = source.substring(0, one.at) + one.put + source.substring(one.at + one.length);
        Map<String, byte[]> made = compile(broken);
        if (made == null) {
            return "no Java";
        }
        String[] end = {"too long"};
        Thread run = new Thread(() -> end[0] = run(made));
        run.start();
        try {
            run.join(PATIENCE);
        } catch (InterruptedException e) {
            return "interrupted";
        }
        if (run.isAlive()) {
            stop(run);
        }
        return end[0];
    }

    @SuppressWarnings({"deprecation", "removal"})
    private static void stop(Thread run) {
        run.stop();
    }

    private static String run(Map<String, byte[]> made) {
        try {
            ClassLoader loader = new Fresh(made);
            for (String test : tests) {
                loader.loadClass(test).getMethod("main", String[].class).invoke(null, (Object) new String[0]);
            }
            return "not seen";
        } catch (java.lang.reflect.InvocationTargetException e) {
            return "seen by " + e.getCause().getMessage();
        } catch (Throwable e) {
            return "seen by " + e;
        }
    }

    private static final class Fresh extends ClassLoader {
        private final Map<String, byte[]> made;

        Fresh(Map<String, byte[]> made) {
            super(ClassLoader.getPlatformClassLoader());
            this.made = made;
        }

        @Override
        protected Class<?> findClass(String name) throws ClassNotFoundException {
            try {
                byte[] code = made.get(name);
                if (code == null) {
                    code = Files.readAllBytes(classes.resolve(name + ".class"));
                }
                return defineClass(name, code, 0, code.length);
            } catch (java.io.IOException e) {
                throw new ClassNotFoundException(name);
            }
        }
    }

    private static Map<String, byte[]> compile(String text) {
        JavaCompiler compiler = ToolProvider.getSystemJavaCompiler();
        Map<String, ByteArrayOutputStream> out = new HashMap<>();
        JavaFileManager files = new ForwardingJavaFileManager<>(compiler.getStandardFileManager(d -> { }, null, null)) {
            @Override
            public JavaFileObject getJavaFileForOutput(Location l, String name, JavaFileObject.Kind kind, FileObject near) {
                ByteArrayOutputStream bytes = new ByteArrayOutputStream();
                out.put(name, bytes);
                return new SimpleJavaFileObject(URI.create("mem:///" + name + ".class"), kind) {
                    @Override
                    public OutputStream openOutputStream() {
                        return bytes;
                    }
                };
            }
        };
        JavaFileObject in = new SimpleJavaFileObject(URI.create("mem:///NineDown.java"), JavaFileObject.Kind.SOURCE) {
            @Override
            public CharSequence getCharContent(boolean ignore) {
                return text;
            }
        };
        boolean good = compiler.getTask(null, files, d -> { }, List.of("-nowarn"), null, List.of(in)).call();
        if (!good) {
            return null;
        }
        Map<String, byte[]> made = new HashMap<>();
        out.forEach((name, bytes) -> made.put(name, bytes.toByteArray()));
        return made;
    }

    private static List<Break> breaks(String source) {
        // comments become blanks, so that places stay
        StringBuilder code = new StringBuilder(source);
        Matcher comment = Pattern.compile("(?s)/\\*.*?\\*/|//[^\n]*").matcher(source);
        while (comment.find()) {
            for (int i = comment.start(); i < comment.end(); i++) {
                if (code.charAt(i) != '\n') {
                    code.setCharAt(i, ' ');
                }
            }
        }
        List<Break> breaks = new ArrayList<>();
        signs(code, breaks);
        numbers(code, breaks);
        names(code, breaks);
        statements(code, breaks);
        conditions(code, breaks);
        return breaks;
    }

    private static void signs(CharSequence code, List<Break> breaks) {
        String[][] others = {
            {"<", "<=", ">="}, {"<=", "<", "=="}, {">", ">=", "<="}, {">=", ">", "=="}, {"==", "!="}, {"!=", "=="},
            {"&&", "||"}, {"||", "&&"}, {"+", "-"}, {"-", "+"}, {"*", "+"}, {"/", "*"}, {"%", "/"},
            {"&", "|"}, {"|", "&"}, {"+=", "-=", "="}, {"-=", "+="}, {"|=", "=", "&="}, {"&=", "="}, {"^=", "|=", "&="},
        };
        Matcher m = Pattern.compile("(?<= )(<=?|>=?|==|!=|&&|\\|\\||\\+=?|-=?|\\*|/|%|&=?|\\|=?|\\^=)(?= )").matcher(code);
        while (m.find()) {
            for (String[] one : others) {
                for (int i = 1; one[0].equals(m.group()) && i < one.length; i++) {
                    breaks.add(new Break(m.start(), m.group().length(), one[i]));
                }
            }
        }
        Matcher not = Pattern.compile("!(?=[a-zA-Z(])|~").matcher(code);
        while (not.find()) {
            breaks.add(new Break(not.start(), 1, ""));
        }
    }

    private static void numbers(CharSequence code, List<Break> breaks) {
        Matcher m = Pattern.compile("(?<![\\w'.])\\d+(?![\\w'.])").matcher(code);
        while (m.find()) {
            long n = Long.parseLong(m.group());
            breaks.add(new Break(m.start(), m.group().length(), "" + (n + 1)));
            if (n > 0) {
                breaks.add(new Break(m.start(), m.group().length(), "" + (n - 1)));
            }
        }
        Matcher sign = Pattern.compile("'(.)'").matcher(code);
        while (sign.find()) {
            breaks.add(new Break(sign.start(), 3, "'" + (char) (sign.group(1).charAt(0) + 1) + "'"));
            breaks.add(new Break(sign.start(), 3, "'" + (char) (sign.group(1).charAt(0) - 1) + "'"));
        }
    }

    private static void names(CharSequence code, List<Break> breaks) {
        String[][] others = {
            {"true", "false"}, {"false", "true"}, {"BAD", "STATE", "NONE"}, {"STATE", "BAD"}, {"NONE", "BAD", "0"},
            {"FULL", "BAD"}, {"NULL", "PLACE"}, {"PLACE", "NULL"}, {"SIZE", "PLACE"}, {"STORE", "PLACE"},
            {"KIND", "BAD"}, {"CAUGHT", "LIES_ON"}, {"LIES_ON", "CAUGHT"}, {"min", "max"}, {"max", "min"},
            {"clean", ""}, {"continue", "break"}, {"down", "0"}, {"yard", "spare"}, {"spare", "yard"},
        };
        Matcher m = Pattern.compile("(?<![\\w.])[A-Za-z_]+(?!\\w)").matcher(code);
        while (m.find()) {
            for (String[] one : others) {
                for (int i = 1; one[0].equals(m.group()) && i < one.length; i++) {
                    breaks.add(new Break(m.start(), m.group().length(), one[i]));
                }
            }
        }
    }

    /** Statements of one line that can be left out. */
    private static void statements(CharSequence code, List<Break> breaks) {
        Matcher m = Pattern.compile("(?m)^ +(?!return|int |long |boolean |private |public |final |abstract |Lifter |Row |Yard |super)[a-zA-Z][^;{}\n]*;$").matcher(code);
        while (m.find()) {
            breaks.add(new Break(m.start(), m.group().length(), ""));
        }
    }

    /** Operands of conditions that can be left out. */
    private static void conditions(CharSequence code, List<Break> breaks) {
        Matcher m = Pattern.compile("(?<=if \\(|while \\(|return |= )(!?[\\w.]+(?:\\([^()]*\\))?(?: (?:<=?|>=?|==|!=) [\\w.]+)?) (\\|\\||&&) ").matcher(code);
        while (m.find()) {
            breaks.add(new Break(m.start(), m.group().length(), ""));
        }
        Matcher n = Pattern.compile(" (\\|\\||&&) (!?[\\w.]+(?:\\([^()]*\\))?(?: (?:<=?|>=?|==|!=) [\\w.]+)?)(?=[ );])").matcher(code);
        int from = 0;
        while (from < code.length() && n.find(from)) {
            breaks.add(new Break(n.start(), n.group().length(), ""));
            from = n.start() + 1;
        }
    }
}
