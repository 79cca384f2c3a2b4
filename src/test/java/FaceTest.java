import java.lang.reflect.Field;
import java.lang.reflect.Member;
import java.lang.reflect.Method;
import java.lang.reflect.Modifier;
import java.nio.file.Files;
import java.nio.file.Path;
import java.util.ArrayList;
import java.util.List;
import java.util.Set;
import java.util.TreeSet;
import java.util.regex.Matcher;
import java.util.regex.Pattern;

/** The face of the class, and what of LANGUAGE.md can be seen in its source and its class file. */
public final class FaceTest {
    private static final String[] FACE = {
        "int feed(int,int,int,int,int)", "boolean end(int)", "int next(int)", "int opera(int,int,boolean,int)",
        "int singer(int,int,int)", "boolean players(int,int,int)", "boolean chorus(int,int)", "int contract(int)",
        "int fault()", "boolean learn(int,int,int,int)", "int call(int,int,int,int,int)",
        "boolean cast(int,int,int,boolean)", "boolean ill(int,int,int)", "int who(int,int,boolean,int)",
        "int wrong(int)", "int told(int,int)", "int learned(int,int,int,int)", "int tired(int,int,int)",
        "int fee(int,int,int)", "int pay(int,int,int)", "int moves(int,int)", "boolean may(int,int,int)",
        "int harm(int,int,int)", "int instead(int,int)", "int lay(int,int,int)", "int laid(int)", "int keep()",
        "int count(int)"};

    public static void main(String[] args) throws Exception {
        face();
        nestedNames();
        source(Files.readString(Path.of("src/main/java/OperaHouse.java")));
        Check.end();
    }

    private static void face() {
        Set<String> due = new TreeSet<>(List.of(FACE));
        Set<String> got = new TreeSet<>();
        for (Method m : OperaHouse.class.getDeclaredMethods()) {
            if (!Modifier.isPrivate(m.getModifiers()) && !m.isSynthetic()) {
                got.add(signature(m));
                Check.yes("public: " + m, Modifier.isPublic(m.getModifiers()));
            }
        }
        Check.same("methods of the face: " + got, got.equals(due) ? 1 : 0, 1);
        for (Field f : OperaHouse.class.getDeclaredFields()) {
            boolean isNone = f.getName().equals("NONE");
            Check.yes("private but NONE: " + f, isNone ? Modifier.isPublic(f.getModifiers()) : Modifier.isPrivate(f.getModifiers()));
            boolean fixed = !Modifier.isStatic(f.getModifiers()) || Modifier.isFinal(f.getModifiers());
            Check.yes("static fields are final: " + f, fixed);
        }
        Check.same("constructors", OperaHouse.class.getConstructors().length, 1);
        Check.yes("final", Modifier.isFinal(OperaHouse.class.getModifiers()));
    }

    private static String signature(Method m) {
        StringBuilder b = new StringBuilder(m.getReturnType().getName()).append(' ').append(m.getName()).append('(');
        for (int k = 0; k < m.getParameterCount(); k++) {
            b.append(k == 0 ? "" : ",").append(m.getParameterTypes()[k].getName());
        }
        return b.append(')').toString();
    }

    private static void nestedNames() {
        Set<String> names = new TreeSet<>();
        for (String s : FACE) {
            names.add(s.substring(s.indexOf(' ') + 1, s.indexOf('(')));
        }
        for (Method m : OperaHouse.class.getDeclaredMethods()) {
            if (Modifier.isPrivate(m.getModifiers())) {
                Check.no("a private method bears a public name: " + m, names.contains(m.getName()));
            }
        }
        Class<?>[] nested = OperaHouse.class.getDeclaredClasses();
        Check.yes("some twelve classes: " + nested.length, nested.length <= 11);
        for (Class<?> c : nested) {
            Check.yes("static: " + c, Modifier.isStatic(c.getModifiers()));
            for (Method m : c.getDeclaredMethods()) {
                Check.no("a method inside bears a public name: " + m, names.contains(m.getName()));
                Check.yes("at most seven parameters: " + m, m.getParameterCount() <= 7);
            }
            int fields = 0;
            for (Field f : c.getDeclaredFields()) {
                fields += isState(f) ? 1 : 0;
            }
            Check.yes("some twenty fields: " + c, fields <= 20);
        }
    }

    private static boolean isState(Member f) {
        return !Modifier.isStatic(f.getModifiers());
    }

    private static void source(String text) {
        String code = text.replaceAll("//[^\n]*|(?s)/\\*.*?\\*/", "").replaceAll("\"[^\"\n]*\"", "\"\"");
        List<String> imports = new ArrayList<>();
        for (String line : text.split("\n")) {
            if (line.startsWith("import ")) {
                imports.add(line);
            }
        }
        Check.same("imports " + imports, imports.size(), 2);
        String[] never = {"\\bcatch\\b", "\\btry\\b", "\\bfinally\\b", "->", "::", "\\bassert\\b", "\\bsynchronized\\b",
            "\\bnative\\b", "System\\.(?!arraycopy)", "Arrays\\.(?!fill)", "\\bordinal\\b", "\\bcompareTo\\b", "@",
            "\\bdouble\\b", "\\bfloat\\b", "\\bThread\\b", "Math\\.(?!max|min|abs)", "\\binstanceof\\b",
            "\\bpackage\\b", "\\bprotected\\b", "while \\(true\\)", "for \\(;;\\)", "\"\" \\+", "\\+ \"\""};
        for (String n : never) {
            Check.no("never: " + n, Pattern.compile(n).matcher(code).find());
        }
        Matcher thrown = Pattern.compile("\\bthrow\\b").matcher(code);
        int throwing = 0;
        while (thrown.find()) {
            throwing++;
        }
        Check.same("one throw, in told", throwing, 1);
        for (int k = 0; k < text.length(); k++) {
            if (text.charAt(k) > 126) {
                Check.same("a sign beyond 126 at " + k, text.charAt(k), 0);
            }
        }
        lengths(text);
    }

    /** Methods begin and end at their own depth of blanks. */
    private static void lengths(String text) {
        String[] lines = text.split("\n");
        Pattern head = Pattern.compile("^( {4}| {8})(?! )[^=;]*\\([^=;]*\\) (throws \\w+ )?\\{$");
        for (int k = 0; k < lines.length; k++) {
            Matcher m = head.matcher(lines[k]);
            if (m.find()) {
                int end = k;
                while (end < lines.length - 1 && !lines[end].equals(m.group(1) + "}")) {
                    end++;
                }
                Check.yes("some sixty lines: " + lines[k] + (end - k), end - k <= 60);
            }
        }
    }
}
