import java.io.ByteArrayOutputStream;
import java.io.OutputStream;
import java.io.PrintStream;
import java.io.StringWriter;
import java.lang.reflect.InvocationTargetException;
import java.net.URI;
import java.nio.file.Files;
import java.nio.file.Path;
import java.security.Permission;
import java.util.ArrayList;
import java.util.Comparator;
import java.util.HashMap;
import java.util.List;
import java.util.Map;
import java.util.TreeMap;
import java.util.concurrent.ExecutorService;
import java.util.concurrent.Executors;
import java.util.concurrent.TimeUnit;
import java.util.concurrent.atomic.AtomicInteger;
import java.util.regex.Matcher;
import java.util.regex.Pattern;
import java.util.stream.Stream;
import javax.tools.FileObject;
import javax.tools.ForwardingJavaFileManager;
import javax.tools.JavaCompiler;
import javax.tools.JavaFileManager;
import javax.tools.JavaFileObject;
import javax.tools.SimpleJavaFileObject;
import javax.tools.ToolProvider;

/**
 * Shows what the tests do not see: makes one small fault after the other in src/main/java/Pagedocument.java (in memory
 * alone), runs the tests, and tells the faults that no test has found. Most of those are none, as they only concern
 * rooms and tests of what can not be; the others want a test.
 *
 * java -XX:TieredStopAtLevel=1 -Djava.security.manager=allow tools/Mutate.java FIRST LAST TEST...
 *
 * FIRST and LAST are lines of the program (1 99999 for all: some quarter of an hour); TEST the names of test classes.
 */
public final class Mutate {
    private static final String MAIN = "src/main/java/Pagedocument.java";
    private static final JavaCompiler COMPILER = ToolProvider.getSystemJavaCompiler();
    private static final List<Fault> FAULTS = new ArrayList<>();
    private static String program;
    private static boolean[] isCode;
    private static Map<String, byte[]> tests;

    private record Fault(int at, int end, String with) {
    }

    private static final class Exit extends SecurityException {
        final int code;

        Exit(int code) {
            this.code = code;
        }
    }

    private static final class Source extends SimpleJavaFileObject {
        private final String text;

        Source(String name, String text) {
            super(URI.create("string:///" + name), Kind.SOURCE);
            this.text = text;
        }

        @Override
        public CharSequence getCharContent(boolean isLenient) {
            return text;
        }
    }

    private static final class Made extends SimpleJavaFileObject {
        final ByteArrayOutputStream bytes = new ByteArrayOutputStream();

        Made(String name) {
            super(URI.create("mem:///" + name + ".class"), Kind.CLASS);
        }

        @Override
        public OutputStream openOutputStream() {
            return bytes;
        }
    }

    private static final class Memory extends ForwardingJavaFileManager<JavaFileManager> {
        final Map<String, Made> made = new HashMap<>();

        Memory() {
            super(COMPILER.getStandardFileManager(null, null, null));
        }

        @Override
        public JavaFileObject getJavaFileForOutput(Location at, String name, JavaFileObject.Kind kind, FileObject beside) {
            made.put(name, new Made(name));
            return made.get(name);
        }
    }

    private static final class Loader extends ClassLoader {
        private final Map<String, byte[]> classes;

        Loader(Map<String, byte[]> classes) {
            super(ClassLoader.getPlatformClassLoader());
            this.classes = classes;
        }

        @Override
        protected Class<?> findClass(String name) throws ClassNotFoundException {
            byte[] bytes = classes.get(name);
            if (bytes == null) {
                throw new ClassNotFoundException(name);
            }
            return defineClass(name, bytes, 0, bytes.length);
        }
    }

    /** The classes that sources make; null, if they do not compile. */
    private static Map<String, byte[]> compile(List<Source> sources) {
        Memory memory = new Memory();
        List<String> options = List.of("-proc:none", "-g:none", "-nowarn", "-cp", "");
        if (!COMPILER.getTask(new StringWriter(), memory, found -> { }, options, null, sources).call()) {
            return null;
        }
        Map<String, byte[]> classes = new HashMap<>();
        memory.made.forEach((name, made) -> classes.put(name, made.bytes.toByteArray()));
        return classes;
    }

    /** Faults are made neither in comments nor in texts. */
    private static void findCode() {
        isCode = new boolean[program.length()];
        for (int at = 0; at < program.length();) {
            char sign = program.charAt(at);
            if (program.startsWith("//", at)) {
                at = program.indexOf('\n', at);
            } else if (program.startsWith("/*", at)) {
                at = program.indexOf("*/", at) + 2;
            } else if (sign == '"' || sign == '\'') {
                for (at++; program.charAt(at) != sign; at++) {
                    at += program.charAt(at) == '\\' ? 1 : 0;
                }
                at++;
            } else {
                isCode[at] = true;
                at++;
            }
        }
    }

    private static String lineAt(int place) {
        int from = program.lastIndexOf('\n', place) + 1;
        return program.substring(from, program.indexOf('\n', place));
    }

    private static void each(String pattern, boolean isInCode, String... with) {
        Matcher found = Pattern.compile(pattern, Pattern.MULTILINE).matcher(program);
        for (int from = 0; found.find(from); from = found.end()) {
            String line = lineAt(found.start()).trim();
            if (isCode[found.start()] != isInCode || line.contains("throw new") || line.startsWith("*") || line.startsWith("/")) {
                continue;
            }
            for (String one : with) {
                FAULTS.add(new Fault(found.start(), found.end(), one.replace("$", found.group())));
            }
        }
    }

    private static void findFaults() {
        String[][] swaps = {{" < ", " <= "}, {" <= ", " < "}, {" > ", " >= "}, {" >= ", " > "}, {" == ", " != "},
            {" != ", " == "}, {" && ", " || "}, {" - ", " + "}, {"++;", "--;"}, {"++)", "--)"}, {"--)", "++)"}};
        for (String[] swap : swaps) {
            each(Pattern.quote(swap[0]), true, swap[1]);
        }
        each("(?<= )\\|\\| ", true, "&& ");
        each(" \\+ ", true, " - ");
        each("(?<![\\w.])\\d+(?![\\wxX])", true, "($ + 1)", "($ - 1)");
        each("(?<=[ (])!(?=[\\w(])", true, "");
        each("\\btrue\\b", true, "false");
        each("\\bfalse\\b", true, "true");
        each("\\b(break|continue)( \\w+)?;", true, ";");
        each("\\b(MOST_\\w+|OBJECTS|DOCUMENTS|FILES)\\b(?! =)", true, "($ + 1)", "($ - 1)");
        each("(?<=^ {8,40})(?!return|final|private|throw|case|default|break|continue)[\\w.\\[\\]]+( [-+*|]?= [^;]*|\\([^{};]*\\)|\\+\\+);$",
                true, ";");
        each("\"(?:[^\"\\\\\n]|\\\\.)+\"", false, "($ + \"#\")");
        each("'(?:\\\\.|[^'\\\\])'", false, "'@'");
        FAULTS.sort(Comparator.comparingInt(Fault::at));
    }

    /** Why a test fails; null, if it does not. */
    @SuppressWarnings("removal")
    private static String run(Map<String, byte[]> classes, String test) {
        Map<String, byte[]> all = new HashMap<>(tests);
        all.putAll(classes);
        String[] why = {"?"};
        Thread thread = new Thread(null, () -> {
            try {
                new Loader(all).loadClass(test).getMethod("main", String[].class).invoke(null, (Object) new String[0]);
                why[0] = null;
            } catch (InvocationTargetException e) {
                why[0] = e.getCause() instanceof Exit exit && exit.code == 0 ? null : "" + e.getCause();
            } catch (Throwable e) {
                why[0] = "" + e;
            }
        }, "run", 1 << 26);
        thread.setDaemon(true);
        thread.start();
        try {
            thread.join(20000);
            if (thread.isAlive()) {
                thread.stop();
                why[0] = "it does not end";
            }
        } catch (InterruptedException e) {
            why[0] = "" + e;
        }
        return why[0];
    }

    private static boolean isFound(Fault fault, List<String> names) {
        String faulty = program.substring(0, fault.at) + fault.with + program.substring(fault.end);
        Map<String, byte[]> classes = compile(List.of(new Source("Pagedocument.java", faulty)));
        return classes == null || names.stream().anyMatch(name -> run(classes, name) != null);
    }

    private static Map<String, byte[]> compileTests() throws Exception {
        List<Source> sources = new ArrayList<>(List.of(new Source("Pagedocument.java", program)));
        for (String folder : List.of("src/test/java", "src/test/help")) {
            try (Stream<Path> files = Files.list(Path.of(folder))) {
                for (Path file : files.toList()) {
                    sources.add(new Source(file.getFileName().toString(), Files.readString(file)));
                }
            }
        }
        return compile(sources);
    }

    @SuppressWarnings("removal")
    private static void forbidExit() {
        System.setSecurityManager(new SecurityManager() {
            @Override
            public void checkPermission(Permission asked) {
                if (asked.getName().startsWith("exitVM.") && Thread.currentThread().getName().equals("run")) {
                    throw new Exit(Integer.parseInt(asked.getName().substring(7)));
                }
            }
        });
    }

    public static void main(String[] args) throws Exception {
        int first = Integer.parseInt(args[0]);
        int last = Integer.parseInt(args[1]);
        List<String> names = List.of(args).subList(2, args.length);
        program = Files.readString(Path.of(MAIN));
        tests = compileTests();
        findCode();
        findFaults();
        PrintStream out = System.out;
        System.setOut(new PrintStream(OutputStream.nullOutputStream()));
        forbidExit();
        for (String name : names) {
            String why = run(Map.of(), name);
            if (why != null) {
                out.println(name + " fails without any fault: " + why);
                return;
            }
        }
        ExecutorService workers = Executors.newFixedThreadPool(Runtime.getRuntime().availableProcessors());
        AtomicInteger tried = new AtomicInteger();
        Map<Integer, String> left = new TreeMap<>();
        for (int k = 0; k < FAULTS.size(); k++) {
            int id = k;
            Fault fault = FAULTS.get(k);
            int line = 1 + (int) program.substring(0, fault.at).chars().filter(sign -> sign == '\n').count();
            if (line < first || line > last) {
                continue;
            }
            workers.submit(() -> {
                tried.incrementAndGet();
                if (!isFound(fault, names)) {
                    String was = program.substring(fault.at, fault.end).trim();
                    synchronized (left) {
                        left.put(id, line + ": " + lineAt(fault.at).trim() + "   [" + was + " -> " + fault.with.trim() + "]");
                    }
                }
            });
        }
        workers.shutdown();
        workers.awaitTermination(3, TimeUnit.HOURS);
        left.values().forEach(out::println);
        out.println(tried + " faults, " + left.size() + " not found");
        Runtime.getRuntime().halt(0);
    }
}
