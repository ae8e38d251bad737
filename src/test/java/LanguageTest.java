import java.io.IOException;
import java.nio.file.Files;
import java.nio.file.Path;
import java.util.ArrayList;
import java.util.List;
import java.util.Set;
import java.util.TreeSet;
import java.util.regex.Matcher;
import java.util.regex.Pattern;

/** Rules of LANGUAGE.md that can be seen in the text of the class. Runs in the project's folder. */
public final class LanguageTest {
    private static final Due due = new Due("LanguageTest");
    private static final Pattern METHOD =
        Pattern.compile("^ +((?:public |private |static |final )*)(\\w[\\w\\[\\]]*) (\\w+)\\(([^)]*)\\) \\{$");

    public static void main(String[] args) throws IOException {
        String text = Files.readString(Path.of("src/main/java/HawkAsks.java"));
        String code = text.replaceAll("(?s)/\\*.*?\\*/", "").replaceAll("//[^\n]*", "");
        forbidden(code);
        methods(code.split("\n"));
        objects(code.split("\n"));
        due.end();
    }

    private static void forbidden(String code) {
        String[] words = {"throw", "throws", "try", "catch", "synchronized", "assert", "import", "package", "protected",
            "double", "float", "Object", "Exception", "hashCode", "toString", "volatile", "native", "while \\(true\\)"};
        for (String word : words) {
            due.is("the word " + word, Pattern.compile("\\b" + word + "\\b").matcher(code).find() ? 1 : 0, 0);
        }
        due.is("lambdas", code.contains("->") || code.contains("::") ? 1 : 0, 0);
        due.is("Exact", code.contains("Exact(") ? 1 : 0, 0);
        Matcher classes = Pattern.compile("(?m)^(.*)\\bclass (\\w+)").matcher(code);
        int number = 0;
        while (classes.find()) {
            number++;
            boolean outer = classes.group(2).equals("HawkAsks");
            due.is("class " + classes.group(2), outer || classes.group(1).contains("private static final") ? 1 : 0, 1);
        }
        due.is("twelve classes at most", number <= 12 ? 1 : 0, 1);
    }

    private static void methods(String[] lines) {
        Set<String> open = new TreeSet<>();
        List<String> hidden = new ArrayList<>();
        for (int i = 0; i < lines.length; i++) {
            Matcher m = METHOD.matcher(lines[i]);
            if (!m.matches() || m.group(2).equals("new") || m.group(2).equals("else")) {
                continue;
            }
            (m.group(1).contains("public") ? open : hidden).add(m.group(3));
            due.is("parameters of " + m.group(3), m.group(4).split(",").length <= 7 ? 1 : 0, 1);
            String end = lines[i].replaceAll("\\S.*", "") + "}";
            int last = i;
            while (last < lines.length - 1 && !lines[last].equals(end)) {
                last++;
            }
            due.is("lines of " + m.group(3), last - i <= 60 ? 1 : 0, 1);
        }
        due.is("public methods", open.size(), 38);
        for (String name : hidden) {
            due.is("a hidden method has a public one's name: " + name, open.contains(name) ? 1 : 0, 0);
        }
    }

    /** All objects are made with the object that holds them: no call makes one. */
    private static void objects(String[] lines) {
        for (String line : lines) {
            boolean field = line.contains("final ");
            boolean act = line.trim().equals("kept[k] = new Castle();");
            due.is("an object made by a call: " + line.trim(), line.contains("new ") && !field && !act ? 1 : 0, 0);
        }
    }
}
