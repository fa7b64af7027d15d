import java.io.IOException;
import java.nio.file.Files;
import java.nio.file.Path;
import java.util.ArrayList;
import java.util.List;
import java.util.regex.Matcher;
import java.util.regex.Pattern;

/**
 * Sentences of the document, each with runs of calls that hold it at its edges. Behind every call that is
 * refused it is seen that nothing has changed; at the end, that each sentence stands in the document as it is
 * told here, and that no sentence which names an edge was left out.
 */
final class Edges {
    static final int TERMS = 0, PROMISES = 39;
    private static final Path DOCUMENT = Path.of("../shared/DOC.md");
    /** What names an edge: refusals, bounds, and what is answered where there is none. */
    private static final Pattern EDGE = Pattern.compile(
        "\\.\\.|\\d|at most|at first|at least|BAD|FULL|STATE|NONE|\\bNO\\b|none|above|below|ahead|empty|missing|too"
        + "|wrapping|cut|last|like ones|\\bany\\b|alike|enough|does not matter|lowest|highest|least|nearest|greatest");

    private final Check check;
    private final List<List<String>> sentences = new ArrayList<>();
    private int section;
    private String sentence = "";
    private int refused;

    Edges(Check check) {
        this.check = check;
        for (int k = 0; k <= PROMISES; k++) {
            sentences.add(new ArrayList<>());
        }
    }

    /** A sentence of a promise (of the terms: 0) and a run on a new object that holds it. */
    void of(int promise, String told, String... lines) {
        section = promise;
        sentence = told;
        sentences.get(promise).add(told);
        run(lines);
    }

    /** One more run, on another new object, for the sentence that was told last. */
    void run(String... lines) {
        List<Script.Line> all = Script.read(lines);
        Asked x = new Asked();
        for (int k = 0; k < all.size(); k++) {
            Script.Line line = all.get(k);
            long got = Script.ask(x, line);
            if (line.hasDue()) {
                check.due(place() + line.told() + " (line " + k + ")", got, line.due());
            }
            if (line.hasDue() && isRefusal(line) && !line.stays()) {
                refused++;
                changesNothing(all, k);
            }
        }
    }

    void due(String call, long got, long want) {
        check.due(place() + call, got, want);
    }

    private String place() {
        return (section == TERMS ? "terms" : "promise " + section) + ", \"" + sentence + "\": ";
    }

    private static boolean isRefusal(Script.Line line) {
        return line.due() <= -1 && line.due() >= -14 && !line.name().equals("says") || line.due() == RedTent.NO;
    }

    /** Asks two objects of the same past, one with the refused call and one without it, all that can be asked. */
    private void changesNothing(List<Script.Line> all, int at) {
        for (int part = 0; part < Probe.PARTS; part++) {
            List<String> with = Probe.of(toldTo(all, at, true), part);
            List<String> without = Probe.of(toldTo(all, at, false), part);
            int k = 0;
            while (k < with.size() && k < without.size() && with.get(k).equals(without.get(k))) {
                k++;
            }
            boolean same = k == with.size() && k == without.size();
            String seen = same || k >= with.size() || k >= without.size() ? "" : with.get(k) + " instead of " + without.get(k);
            check.holds(place() + all.get(at).told() + " (line " + at + ") changes nothing " + seen, same);
        }
    }

    private static Asked toldTo(List<Script.Line> all, int at, boolean with) {
        Asked x = new Asked();
        for (int k = 0; k < at; k++) {
            Script.ask(x, all.get(k));
        }
        if (with) {
            Script.ask(x, all.get(at));
        }
        return x;
    }

    void finish() throws IOException {
        System.out.println("EdgesTest: " + refused + " refused calls changed nothing");
        if (Files.isReadable(DOCUMENT)) {
            compareWithDocument(Files.readString(DOCUMENT));
        } else {
            System.out.println("EdgesTest: no document to compare the sentences with");
        }
        check.finish();
    }

    private static String plain(String text) {
        return text.replaceAll("```\\w*|====|`", " ").replaceAll("\\s+", " ").trim();
    }

    private void compareWithDocument(String document) {
        String[] parts = new String[PROMISES + 1];
        String used = document.substring(document.indexOf("An object is used"), document.indexOf("## The public face"));
        parts[TERMS] = used + document.substring(document.indexOf("## Terms"), document.indexOf("## Promise 1:"));
        for (int k = 1; k <= PROMISES; k++) {
            int from = document.indexOf("## Promise " + k + ":");
            int to = document.indexOf("\n## ", from);
            String part = document.substring(from, to);
            parts[k] = part.substring(part.indexOf("`: ") + 3);
        }
        for (int k = 0; k <= PROMISES; k++) {
            String left = plain(parts[k]);
            // the longest first, so that none is cut by a part of it
            sentences.get(k).sort((one, other) -> other.length() - one.length());
            for (String told : sentences.get(k)) {
                check.holds("section " + k + " says \"" + told + "\"", plain(parts[k]).contains(plain(told)));
                left = left.replace(plain(told), "#");
            }
            Matcher edge = EDGE.matcher(left.replaceAll("## Terms|\\b[1-6] (?=#)|Ahead of the calls [^:]*:", ""));
            check.holds("section " + k + " has no edge without a test: " + left, !edge.find());
        }
    }
}
