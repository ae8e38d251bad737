import java.io.IOException;
import java.nio.file.Files;
import java.nio.file.Path;
import java.util.ArrayList;
import java.util.List;
import java.util.regex.Matcher;
import java.util.regex.Pattern;

/**
 * Tests of single sentences of the document: each names its promise, quotes the words that it would fail without, and
 * tells a run of calls on a new object with the answers that are due.
 *
 * <p>Steps of a run are parted by " | " or by the line's end. An answer stands behind " = ": a number, the name of a
 * refusal or finding, MIN, MAX, or bits in braces; a step without one is not compared. Beside the calls there are
 * "text T" (T is fed, then castle() is called; its answer may be "fault F at P"), "tape T" (T is fed), "bell R: a b .."
 * (the items of a new row of ints), "N times CALL", and "new" (another object).
 *
 * <p>"What is refused, or found, changes nothing but status()": each run is made twice, the second time without its
 * refused calls, and all that can be seen must be the same then.
 */
final class Edges {
    private static final int MOST_CALLS = 512;

    private final Due due = new Due("EdgesTest");
    private final Calls told = new Calls();
    private final Document document = new Document();
    private String edge;
    private boolean withRefused;
    private boolean refusedAny;
    private HawkAsks x;
    private int calls;

    Edges() throws IOException {
    }

    /** A test of its own for some words of the document, told for a promise. */
    void edge(int promise, String words, String run) {
        edge = "promise " + promise + ", \"" + words + "\": ";
        due.is(edge + "the document has these words", document.quote(promise, words) ? 1 : 0, 1);
        refusedAny = false;
        String all = play(run, true);
        if (refusedAny) {
            due.is(edge + "what is refused changes nothing", play(run, false).equals(all) ? 1 : 0, 1);
        }
    }

    void end() {
        for (String sentence : document.sentencesNotQuoted()) {
            due.is("a test that quotes: " + sentence, 0, 1);
        }
        due.end();
    }

    private String play(String run, boolean whole) {
        withRefused = whole;
        begin();
        for (String line : run.split("\n")) {
            for (String step : line.split(" \\| ")) {
                if (!step.isBlank()) {
                    step(step.trim());
                }
            }
        }
        String all = seen();
        due.is(edge + "at most " + MOST_CALLS + " calls", calls <= MOST_CALLS ? 1 : 0, 1);
        return all;
    }

    private void begin() {
        x = new HawkAsks();
        calls = 0;
    }

    private void step(String step) {
        int equals = step.indexOf(" = ");
        String deed = equals < 0 ? step : step.substring(0, equals);
        String reply = equals < 0 ? null : step.substring(equals + 3);
        String[] words = deed.split(" ", 2);
        if (deed.equals("new")) {
            begin();
        } else if (words[0].equals("text")) {
            feed(words[1]);
            read(deed, reply);
        } else if (words[0].equals("tape")) {
            feed(words[1]);
        } else if (words[0].equals("bell")) {
            bell(words[1]);
        } else if (deed.contains(" times ")) {
            for (int k = Integer.parseInt(words[0]); k > 0; k--) {
                compare(deed.substring(deed.indexOf(" times ") + 7), reply);
            }
        } else {
            compare(deed, reply);
        }
    }

    private void feed(String text) {
        for (int i = 0; i < text.length(); i++) {
            call("feed(" + (int) text.charAt(i) + ")");
        }
    }

    private void read(String deed, String reply) {
        Matcher fault = Pattern.compile("fault (\\d) at (\\d+)").matcher(reply == null ? "" : reply);
        if (fault.matches()) {
            due.is(edge + deed, call("castle()"), -1000100 - Long.parseLong(fault.group(2)));
            due.is(edge + deed + ", then fault()", call("fault()"), Long.parseLong(fault.group(1)));
        } else {
            compare("castle()", reply);
        }
    }

    private void bell(String rowAndItems) {
        String[] parts = rowAndItems.split(": ");
        String[] items = parts[1].split(" ");
        call("row(" + parts[0] + ", 2, " + items.length + ")");
        for (int i = 0; i < items.length; i++) {
            call("set(" + parts[0] + ", " + i + ", " + items[i] + ")");
        }
    }

    private void compare(String call, String reply) {
        if (reply == null) {
            call(call);
            return;
        }
        long want = Calls.number(reply);
        boolean refused = Calls.isRefusal(want);
        refusedAny |= refused;
        if (withRefused || !refused && !call.equals("status()")) {
            due.is(edge + call, call(call), want);
        }
    }

    private long call(String text) {
        calls++;
        return told.call(x, text);
    }

    /** All that can be seen at the end of a run; the rows are dropped for it. */
    private String seen() {
        StringBuilder all = new StringBuilder();
        all.append(call("fault()")).append(' ').append(call("count(7)")).append(' ');
        for (int i = 0; i < 7; i++) {
            all.append(call("trace(" + i + ")")).append(' ');
        }
        see(all);
        all.append(call("count(6)")).append(' ');
        if (call("undo()") >= 0) {
            see(all);
        }
        for (int row = 0; row < 8; row++) {
            all.append(call("drop(" + row + ")")).append(' ');
        }
        return all.toString();
    }

    private void see(StringBuilder all) {
        for (int what = 0; what < 6; what++) {
            all.append(call("count(" + what + ")")).append(' ').append(call("stand(" + what + ")")).append(' ');
        }
        for (int h = 0; h < call("count(1)"); h++) {
            for (int what = 0; what < 4; what++) {
                all.append(call("hawk(" + h + ", " + what + ")")).append(' ');
            }
        }
        for (int a = 0; a < call("count(2)"); a++) {
            for (int what = 0; what < 4; what++) {
                all.append(call("answer(" + a + ", " + what + ")")).append(' ');
            }
        }
    }

    /** The words of ../shared/DOC.md, by promise (0: the terms), and which of its sentences were quoted. */
    private static final class Document {
        private final String[] sections = new String[40];
        private final List<List<String>> quotes = new ArrayList<>();

        Document() throws IOException {
            String text = Files.readString(Path.of("../shared/DOC.md"));
            String told = text.substring(text.indexOf("## Terms"), text.indexOf("## Not promised"));
            String[] parts = told.split("## Promise \\d+: .*\n");
            for (int p = 0; p < sections.length; p++) {
                String part = p == 0 ? parts[p].replaceAll("(?m)^(## Terms|Ahead of the calls .*|```.*)$", "")
                    : parts[p].replaceFirst("(?s)^\\s*`[^`]*`: ", "");
                sections[p] = part.replaceAll("=+ (?=\\d )", "").replaceAll("\\s+", " ").trim();
                quotes.add(new ArrayList<>());
            }
        }

        /** Whether the promise, or else the terms, have the words. */
        boolean quote(int promise, String words) {
            int p = sections[promise].contains(words) ? promise : 0;
            quotes.get(p).add(words);
            return sections[p].contains(words);
        }

        List<String> sentencesNotQuoted() {
            List<String> left = new ArrayList<>();
            for (int p = 0; p < sections.length; p++) {
                for (String sentence : sections[p].split("(?<=[\\w)}]\\.) ")) {
                    if (quotes.get(p).stream().noneMatch(sentence::contains)) {
                        left.add(p + ": " + sentence);
                    }
                }
            }
            return left;
        }
    }
}
