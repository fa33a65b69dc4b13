import java.lang.reflect.Constructor;
import java.lang.reflect.Method;
import java.lang.reflect.Modifier;
import java.nio.file.Files;
import java.nio.file.Path;
import java.util.ArrayList;
import java.util.Arrays;
import java.util.Collections;
import java.util.List;
import java.util.regex.Matcher;
import java.util.regex.Pattern;

/** Looks for what the language of the class rules out, as far as a text search and reflection can. */
public final class LanguageTests {
    private static int wrong = 0;

    private static void fault(String what) {
        wrong++;
        System.out.println(what);
    }

    public static void main(String[] args) throws Exception {
        String source = Files.readString(Path.of("src/main/java/ScanCompare.java"));
        String code = source.replaceAll("/\\*(?s:.*?)\\*/", "").replaceAll("//[^\n]*", "");
        face(Files.readString(Path.of("../shared/DOC.md")));
        forbiddenWords(code.replaceAll("\"[^\"]*\"", "\"\"").replaceAll("'\\\\?.'", "' '"));
        methodLengths(source);
        System.out.println(wrong == 0 ? "the class keeps to its language" : wrong + " faults against the language");
        if (wrong != 0) {
            System.exit(1);
        }
    }

    /** The signature with simple names, the exceptions in their order. */
    private static String signature(Method m) {
        List<String> types = new ArrayList<>();
        for (Class<?> type : m.getParameterTypes()) {
            types.add(type.getSimpleName());
        }
        List<String> thrown = new ArrayList<>();
        for (Class<?> type : m.getExceptionTypes()) {
            thrown.add(type.getSimpleName());
        }
        return m.getReturnType().getSimpleName() + " " + m.getName() + types + thrown;
    }

    private static List<String> signaturesOf(String document) {
        Matcher m = Pattern.compile("(?m)^    public (\\w+) (\\w+)\\(([^)]*)\\)(?: throws ([^;]*))?;$").matcher(document);
        List<String> all = new ArrayList<>();
        while (m.find()) {
            List<String> types = new ArrayList<>();
            for (String p : m.group(3).isEmpty() ? new String[0] : m.group(3).split(", ")) {
                types.add(p.split(" ")[0]);
            }
            List<String> thrown = m.group(4) == null ? List.of() : Arrays.asList(m.group(4).split(", "));
            all.add(m.group(1) + " " + m.group(2) + types + thrown);
        }
        return all;
    }

    private static void face(String document) {
        List<String> due = signaturesOf(document);
        List<String> got = new ArrayList<>();
        List<String> names = new ArrayList<>();
        for (Method m : ScanCompare.class.getDeclaredMethods()) {
            if (Modifier.isPublic(m.getModifiers())) {
                got.add(signature(m));
                names.add(m.getName());
            } else if (!Modifier.isPrivate(m.getModifiers())) {
                fault("rule 1: " + m);
            }
        }
        Collections.sort(due);
        Collections.sort(got);
        if (due.size() != 54 || !due.equals(got)) {
            fault("rule 1: the face is " + got + ", due is " + due);
        }
        for (Class<?> c : ScanCompare.class.getDeclaredClasses()) {
            if (!Modifier.isStatic(c.getModifiers()) || Modifier.isPublic(c.getModifiers())) {
                fault("rule 1: " + c);
            }
            privateNames(c, names);
            if (c.getDeclaredFields().length > 24) {
                fault("rule 11: " + c + " has too many fields");
            }
        }
        privateNames(ScanCompare.class, names);
        for (Constructor<?> c : ScanCompare.class.getDeclaredConstructors()) {
            if (!Modifier.isPublic(c.getModifiers()) || c.getParameterCount() != 2 || c.getExceptionTypes().length > 0) {
                fault("rule 1: " + c);
            }
        }
        if (ScanCompare.class.getFields().length > 0 || !Modifier.isFinal(ScanCompare.class.getModifiers())) {
            fault("rule 1: a public field, or the class is not final");
        }
        if (ScanCompare.class.getDeclaredClasses().length > 12) {
            fault("rule 11: too many classes");
        }
    }

    private static void privateNames(Class<?> c, List<String> names) {
        for (Method m : c.getDeclaredMethods()) {
            boolean inFace = c == ScanCompare.class && Modifier.isPublic(m.getModifiers());
            if (!inFace && names.contains(m.getName())) {
                fault("rule 1: " + m + " bears a name of the face");
            }
            if (m.getParameterCount() > 7) {
                fault("rule 11: " + m + " takes too many parameters");
            }
        }
    }

    private static void forbiddenWords(String code) {
        String[] words = {"\\bimport\\b", "\\bpackage\\b", "\\btry\\b", "\\bcatch\\b", "\\bfinally\\b", "\\bassert\\b",
            "\\bsynchronized\\b", "->", "::", "\\bfloat\\b", "\\bdouble\\b", "Exact\\b", "\\bSystem\\.(?!arraycopy)",
            "\\b(equals|hashCode|toString)\\b", "\\bObject\\b", "\\bprotected\\b", "\\bvolatile\\b", "\\bnative\\b",
            "\\bThread\\b", "\\bRandom\\b", "\\bvar\\b", "\\b(Integer|Long|Math)\\.(?![a-z]+\\w*\\()",
            "\\bfor \\(;", "\\bwhile \\(true\\)", "\"\"\\s*\\+", "\\+\\s*\"\"", "\\+=\\s*\"\""};
        for (String word : words) {
            Matcher m = Pattern.compile(word).matcher(code);
            if (m.find()) {
                fault("rules 3 to 13: " + word + " at character " + m.start());
            }
        }
        Matcher statics = Pattern.compile("\\bstatic (?!final |class |enum )[\\w\\[\\]<>]+ \\w+\\s*[=;]").matcher(code);
        if (statics.find()) {
            fault("rule 5: " + statics.group());
        }
    }

    /** A method runs from a line indented like a member to the closing brace with the same indent. */
    private static void methodLengths(String source) {
        String[] lines = source.split("\n");
        for (int i = 0; i < lines.length; i++) {
            Matcher m = Pattern.compile("^( {4}| {8})(?!\\s)[\\w\\[\\]<> ]+\\([^;]*\\{?$").matcher(lines[i]);
            if (m.find() && !lines[i].contains(" class ")) {
                int end = i;
                while (end < lines.length && !lines[end].equals(m.group(1) + "}")) {
                    end++;
                }
                if (end - i + 1 > 60) {
                    fault("rule 11: the method at line " + (i + 1) + " is too long");
                }
            }
        }
        for (String line : lines) {
            if (line.length() > 120 || line.endsWith(" ") || !line.matches("[ -~]*")) {
                fault("a line that is too long, ends with a blank or holds an odd sign: " + line);
            }
        }
    }
}
