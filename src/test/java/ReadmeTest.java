import java.io.StringWriter;
import java.net.URI;
import java.net.URL;
import java.net.URLClassLoader;
import java.nio.file.DirectoryStream;
import java.nio.file.Files;
import java.nio.file.Path;
import java.util.ArrayList;
import java.util.List;
import java.util.regex.Matcher;
import java.util.regex.Pattern;
import javax.tools.JavaCompiler;
import javax.tools.JavaFileObject;
import javax.tools.SimpleJavaFileObject;
import javax.tools.ToolProvider;

/** README.md: its own way to use the class is compiled and run as it is written there, and what it tells of the tests. */
public final class ReadmeTest {
    private static final String[] HELPERS = {"Check", "Model", "Both"};

    public static void main(String[] args) throws Exception {
        String text = Files.readString(Path.of("README.md"));
        usage(only(blocks(text, "java")));
        List<String> commands = blocks(text, "sh");
        Check.same("ways to run the tests", commands.size(), 2);
        Check.yes("all tests", commands.get(0).equals(".ci/run"));
        Check.yes("that can be run", Files.isExecutable(Path.of(".ci/run")));
        Check.same("one test alone", shell(commands.get(1)), 0);
        Check.yes("the class is where it is told", text.contains("src/main/java/OperaHouse.java")
                && Files.exists(Path.of("src/main/java/OperaHouse.java")));
        testsTold(text);
        Check.end();
    }

    private static List<String> blocks(String text, String kind) {
        List<String> all = new ArrayList<>();
        Matcher m = Pattern.compile("(?s)```" + kind + "\n(.*?)```").matcher(text);
        while (m.find()) {
            all.add(m.group(1).strip());
        }
        return all;
    }

    private static String only(List<String> blocks) {
        Check.same("blocks of a kind", blocks.size(), 1);
        return blocks.isEmpty() ? "" : blocks.get(0);
    }

    /** What the lines leave: the numbers of the opera, the singer, its rules, the call, what is wrong ahead of the cast and then. */
    private static void usage(String lines) throws Exception {
        String code = "public class Use { public static int[] run() { " + lines
                + "\nreturn new int[] {opera, singer, rules, call, before, kind, wrong, house.who(0, 0, false, 0),"
                + " house.fault(), house.count(6)}; } }";
        int[] got = run(code);
        int[] due = {0, 0, 1, 0, 1, 7, 0, 0, 0, 0};
        for (int k = 0; k < due.length; k++) {
            Check.same("answer " + k + " of the way to use it", got == null ? -1000 : got[k], due[k]);
        }
    }

    /** Runs lines in a shell, whose directories for a while are made below one that is cleared away; 0: all went well. */
    private static int shell(String lines) throws Exception {
        Path out = Files.createTempDirectory("readme");
        try {
            ProcessBuilder shell = new ProcessBuilder("sh", "-ec", lines);
            shell.environment().put("TMPDIR", out.toString());
            shell.redirectErrorStream(true).redirectOutput(out.resolve("answer").toFile());
            int code = shell.start().waitFor();
            if (code != 0) {
                System.out.print(Files.readString(out.resolve("answer")));
            }
            return code;
        } finally {
            clear(out);
        }
    }

    private static void clear(Path place) throws Exception {
        if (Files.isDirectory(place)) {
            try (DirectoryStream<Path> inside = Files.newDirectoryStream(place)) {
                for (Path p : inside) {
                    clear(p);
                }
            }
        }
        Files.deleteIfExists(place);
    }

    private static int[] run(String code) throws Exception {
        JavaCompiler compiler = ToolProvider.getSystemJavaCompiler();
        Path out = Files.createTempDirectory("readme");
        try {
            JavaFileObject source = new SimpleJavaFileObject(URI.create("string:///Use.java"), JavaFileObject.Kind.SOURCE) {
                @Override
                public CharSequence getCharContent(boolean ignoreErrors) {
                    return code;
                }
            };
            List<String> options = List.of("-proc:none", "-d", out.toString(), "-cp", System.getProperty("java.class.path"));
            boolean compiled = compiler.getTask(new StringWriter(), null, null, options, null, List.of(source)).call();
            Check.yes("the way to use it compiles", compiled);
            if (!compiled) {
                return null;
            }
            try (URLClassLoader loader = new URLClassLoader(new URL[] {out.toUri().toURL()})) {
                return (int[]) loader.loadClass("Use").getMethod("run").invoke(null);
            }
        } finally {
            clear(out);
        }
    }

    /** Each test is told with its promises, each helper is told, and nothing that is not there. */
    private static void testsTold(String text) throws Exception {
        List<String> helpers = List.of(HELPERS);
        int tests = 0;
        try (DirectoryStream<Path> files = Files.newDirectoryStream(Path.of("src/test/java"), "*.java")) {
            for (Path file : files) {
                String name = file.getFileName().toString().replace(".java", "");
                boolean isTest = Files.readString(file).contains("public static void main(");
                Check.same("a test or a helper: " + name, isTest ? 1 : 0, helpers.contains(name) ? 0 : 1);
                String told = isTest ? "\n| " + name + " | " : "`" + name + "`";
                Check.yes("told: " + name, text.contains(told));
                tests += isTest ? 1 : 0;
            }
        }
        Matcher rows = Pattern.compile("(?m)^\\| \\w+ \\| ").matcher(text);
        int told = 0;
        while (rows.find()) {
            told++;
        }
        Check.same("rows of the table, its head among them", told, tests + 1);
    }
}
