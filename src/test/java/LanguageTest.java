import java.io.IOException;
import java.lang.reflect.Field;
import java.lang.reflect.Modifier;
import java.nio.file.Files;
import java.nio.file.Path;
import java.util.ArrayList;
import java.util.List;
import java.util.Map;
import java.util.Set;
import java.util.TreeMap;
import java.util.TreeSet;
import java.util.regex.Matcher;
import java.util.regex.Pattern;

/** Rules of LANGUAGE.md that can be seen in the text of the class. Runs in the project's folder. */
public final class LanguageTest {
    private static final Due due = new Due("LanguageTest");
    private static final Pattern METHOD =
        Pattern.compile("^ +((?:public |private |static |final )*)(\\w[\\w\\[\\]]*) (\\w+)\\(([^)]*)\\) \\{$");

    public static void main(String[] args) throws IOException {
        String text = Files.readString(Path.of("src/main/java/HawkAsks.java"));
        String code = text.replaceAll("(?s)/\\*.*?\\*/", "").replaceAll("//[^\n]*", "");
        forbidden(code);
        methods(code.split("\n"));
        depth(code.split("\n"));
        fields(HawkAsks.class);
        for (Class<?> inside : HawkAsks.class.getDeclaredClasses()) {
            fields(inside);
        }
        objects(code.split("\n"));
        due.end();
    }

    private static void forbidden(String code) {
        String[] words = {"throw", "throws", "try", "catch", "synchronized", "assert", "import", "package", "protected",
            "double", "float", "Object", "Exception", "hashCode", "toString", "volatile", "native", "while \\(true\\)"};
        for (String word : words) {
            due.is("the word " + word, Pattern.compile("\\b" + word + "\\b").matcher(code).find() ? 1 : 0, 0);
        }
        due.is("lambdas", code.contains("->") || code.contains("::") ? 1 : 0, 0);
        due.is("Exact", code.contains("Exact(") ? 1 : 0, 0);
        Matcher classes = Pattern.compile("(?m)^(.*)\\bclass (\\w+)").matcher(code);
        int number = 0;
        while (classes.find()) {
            number++;
            boolean outer = classes.group(2).equals("HawkAsks");
            due.is("class " + classes.group(2), outer || classes.group(1).contains("private static final") ? 1 : 0, 1);
        }
        due.is("twelve classes at most", number <= 12 ? 1 : 0, 1);
    }

    private static void methods(String[] lines) {
        Set<String> open = new TreeSet<>();
        List<String> hidden = new ArrayList<>();
        for (int i = 0; i < lines.length; i++) {
            Matcher m = METHOD.matcher(lines[i]);
            if (!isMethod(m)) {
                continue;
            }
            (m.group(1).contains("public") ? open : hidden).add(m.group(3));
            due.is("parameters of " + m.group(3), m.group(4).split(",").length <= 7 ? 1 : 0, 1);
            due.is("lines of " + m.group(3), lastLine(lines, i) - i <= 60 ? 1 : 0, 1);
        }
        due.is("public methods", open.size(), 38);
        due.is("every method is seen in the text", open.size() + hidden.size(), declared());
        for (String name : hidden) {
            due.is("a hidden method has a public one's name: " + name, open.contains(name) ? 1 : 0, 0);
        }
    }

    private static int declared() {
        int number = HawkAsks.class.getDeclaredMethods().length;
        for (Class<?> inside : HawkAsks.class.getDeclaredClasses()) {
            number += inside.getDeclaredMethods().length;
        }
        return number;
    }

    private static boolean isMethod(Matcher m) {
        // "else if (..) {" and a constructor, which has no type, look alike but are none.
        return m.matches() && !Set.of("new", "else", "public", "private").contains(m.group(2));
    }

    private static int lastLine(String[] lines, int first) {
        String end = lines[first].replaceAll("\\S.*", "") + "}";
        int last = first;
        while (last < lines.length - 1 && !lines[last].equals(end)) {
            last++;
        }
        return last;
    }

    /** Rule 11: calls go at most eight deep. Methods of one name are taken as one, which makes no path shorter. */
    private static void depth(String[] lines) {
        Map<String, Set<String>> calls = new TreeMap<>();
        for (int i = 0; i < lines.length; i++) {
            Matcher m = METHOD.matcher(lines[i]);
            if (!isMethod(m)) {
                continue;
            }
            Set<String> names = calls.computeIfAbsent(m.group(3), any -> new TreeSet<>());
            for (int k = i + 1; k < lastLine(lines, i); k++) {
                Matcher call = Pattern.compile("\\b(\\w+)\\(").matcher(lines[k]);
                while (call.find()) {
                    names.add(call.group(1));
                }
            }
        }
        due.is("calls are seen", deepest("stand", calls, 0), 3);
        for (String name : calls.keySet()) {
            int deep = deepest(name, calls, 0);
            due.is("calls of " + name + " go " + deep + " deep", deep <= 8 ? 1 : 0, 1);
        }
    }

    private static int deepest(String name, Map<String, Set<String>> calls, int above) {
        int most = 0;
        for (String called : calls.get(name)) {
            // A method that calls itself is recursion; a ring of several would be found here as too deep.
            if (calls.containsKey(called) && !called.equals(name) && above < 20) {
                most = Math.max(most, deepest(called, calls, above + 1));
            }
        }
        return most + 1;
    }

    /** Rules 5 and 11: static fields are final, and there are not many others. */
    private static void fields(Class<?> one) {
        int own = 0;
        for (Field f : one.getDeclaredFields()) {
            boolean isStatic = Modifier.isStatic(f.getModifiers());
            own += isStatic ? 0 : 1;
            due.is(f + " is final", isStatic && !Modifier.isFinal(f.getModifiers()) ? 1 : 0, 0);
        }
        due.is("fields of " + one + ": " + own, own <= 20 ? 1 : 0, 1);
    }

    /** All objects are made with the object that holds them: no call makes one. */
    private static void objects(String[] lines) {
        for (String line : lines) {
            boolean field = line.contains("final ");
            boolean act = line.trim().equals("kept[k] = new Castle();");
            due.is("an object made by a call: " + line.trim(), line.contains("new ") && !field && !act ? 1 : 0, 0);
        }
    }
}
