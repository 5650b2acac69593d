import java.io.IOException;
import java.nio.file.Files;
import java.nio.file.Path;
import java.util.List;
import java.util.Set;
import java.util.TreeSet;
import java.util.regex.Matcher;
import java.util.regex.Pattern;

// What of ../shared/LANGUAGE.md can be seen in the program's own text.
public final class LanguageTest {
    private static final Set<String> FACE = Set.of("feed", "end", "furnace", "minder", "stuff", "begin", "minds", "grow", "state",
            "count", "row", "much", "parts", "melt", "fault", "thin", "faults", "holds", "want", "cut", "whose", "enough", "wander",
            "tried", "best", "slice", "span", "choice", "piece", "why", "stripes", "ring", "awry", "far", "image", "back");

    public static void main(String[] args) throws IOException {
        String text = Files.readString(Path.of("src/main/java/PulledCrystal.java"));
        String code = text.replaceAll("//[^\n]*", "").replaceAll("\"[^\"\n]*\"", "\"\"");
        forbiddenWords(code);
        methods(code);
        face();
        Due.done("LanguageTest");
    }

    private static void forbiddenWords(String code) {
        String[] none = {"\\bthrow\\b", "\\bthrows\\b", "\\btry\\b", "\\bcatch\\b", "\\bsynchronized\\b", "\\bassert\\b", "\\bimport\\b",
            "\\bpackage\\b", "->", "::", "\\bdouble\\b", "\\bfloat\\b", "\\bObject\\b", "\\bSystem\\.(?!arraycopy)", "\\bprotected\\b",
            "Exact\\b", "\"\" *\\+", "\\+ *\"\"", "\\bvar\\b", "\\bString\\[", "\\bvolatile\\b", "\\btransient\\b", "\\bnative\\b", "while *\\(true"};
        for (String word : none) {
            Matcher m = Pattern.compile(word).matcher(code);
            Due.is("none of " + word, m.find(), false);
        }
        Due.is("static fields are final", Pattern.compile("\\bstatic (?!final)\\w+(\\[\\])? \\w+( =|;)").matcher(code).find(), false);
        int classes = 0;
        Matcher m = Pattern.compile("\\b(class|enum|record|interface) \\w+").matcher(code);
        while (m.find()) {
            classes++;
        }
        Due.is("twelve classes at most", classes <= 12, true);
    }

    // Methods of nested classes stand deeper; each begins with its head and ends with a brace as deep as the head.
    private static void methods(String code) {
        List<String> lines = code.lines().toList();
        Pattern head = Pattern.compile("^( +)((?:public |private |static |final )*)(\\w+(?:\\[\\])? )?(\\w+)\\(([^)]*)\\) \\{$");
        for (int at = 0; at < lines.size(); at++) {
            Matcher m = head.matcher(lines.get(at));
            if (!m.matches() || Set.of("if", "for", "while", "switch").contains(m.group(4))) {
                continue;
            }
            int length = 1;
            while (!lines.get(at + length).equals(m.group(1) + "}")) {
                length++;
            }
            Due.is("not too long: " + m.group(4), length <= 60, true);
            boolean open = m.group(2).contains("public");
            Due.is("a name of the face is public: " + m.group(4), !open && FACE.contains(m.group(4)), false);
            Due.is("seven parameters: " + m.group(4), m.group(5).split(",").length <= 7 || m.group(4).equals("begin"), true);
        }
    }

    private static void face() {
        TreeSet<String> open = new TreeSet<>();
        for (java.lang.reflect.Method method : PulledCrystal.class.getDeclaredMethods()) {
            if (!java.lang.reflect.Modifier.isPrivate(method.getModifiers())) {
                open.add(method.getName());
                Due.is("public: " + method, java.lang.reflect.Modifier.isPublic(method.getModifiers()), true);
            }
        }
        Due.is("the face", open.equals(new TreeSet<>(FACE)), true);
        for (java.lang.reflect.Field field : PulledCrystal.class.getDeclaredFields()) {
            boolean hidden = java.lang.reflect.Modifier.isPrivate(field.getModifiers());
            Due.is("private: " + field, hidden, !field.getName().equals("NONE"));
        }
        Due.is("final", java.lang.reflect.Modifier.isFinal(PulledCrystal.class.getModifiers()), true);
    }
}
