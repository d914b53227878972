import java.io.IOException;
import java.nio.file.Files;
import java.nio.file.Path;
import java.util.ArrayList;
import java.util.Arrays;
import java.util.List;
import java.util.regex.Matcher;
import java.util.regex.Pattern;

/**
 * Each sentence of the document that names an edge, by a test of its own, which bears the number
 * of its promise and quotes its sentence; and no sentence of the document is left without a test.
 */
public final class EdgesTest {
    private static final List<Class<?>> TESTS = List.of(SentenceEdges.class, DoneEdges.class,
            AdviceEdges.class, HeardEdges.class, KindEdges.class);
    private static final Path DOCUMENT = Path.of("../shared/DOC.md");
    private static final Pattern HEADING = Pattern.compile("## Promise (\\d+): [\\w ]+");
    // What tells nothing: headings, the numbers of sections, marks between sentences.
    private static final Pattern NO_SENTENCE = Pattern.compile("## Terms|" + HEADING
            + "|======== \\d|```(?:text)?|Ahead of the calls .*? the interface says: ---- [^.]*\\."
            + "|[\\s,;:.()]");

    /** How often a text stands in another. */
    private static int often(String document, String quote) {
        int times = 0;
        for (int at = document.indexOf(quote); at >= 0; at = document.indexOf(quote, at + 1)) {
            times++;
        }
        return times;
    }

    /** A sentence of a promise is quoted by tests of that promise; those of the terms by any. */
    private static void isOfItsPromise(String document, Edges.Said said) {
        int at = document.indexOf(said.quote());
        Matcher m = HEADING.matcher(document);
        String promise = "";
        while (m.find() && m.start() < at) {
            promise = String.format("promise%02d_", Integer.parseInt(m.group(1)));
        }
        boolean ofAll = said.test().startsWith("allPromises_");
        Check.holds(said.test() + " quotes what is of " + promise,
                ofAll || said.test().startsWith(promise));
    }

    private static void everyPromiseIsTested(List<Edges.Said> said) {
        for (int n = 1; n <= 28; n++) {
            String promise = String.format("promise%02d_", n);
            Check.holds("a test of " + promise,
                    said.stream().anyMatch(s -> s.test().startsWith(promise)));
        }
    }

    private static void everySentenceIsQuoted(String document, List<Edges.Said> said) {
        boolean[] quoted = new boolean[document.length()];
        for (Edges.Said s : said) {
            Check.due("how often the document says \"" + s.quote() + "\"",
                    often(document, s.quote()), 1);
            int at = Math.max(0, document.indexOf(s.quote()));
            Arrays.fill(quoted, at, at + s.quote().length(), true);
            isOfItsPromise(document, s);
        }
        Matcher m = NO_SENTENCE.matcher(document);
        while (m.find()) {
            Arrays.fill(quoted, m.start(), m.end(), true);
        }
        int end = document.indexOf("## Not promised");
        for (int i = Math.max(0, document.indexOf("## Terms")); i < end; i++) {
            int from = i;
            while (i < end && !quoted[i]) {
                i++;
            }
            Check.holds("a test quotes \"" + document.substring(from, i) + "\"", from == i);
        }
    }

    public static void main(String[] args) throws IOException {
        List<Edges.Said> said = new ArrayList<>();
        for (Class<?> tests : TESTS) {
            said.addAll(Edges.run(tests));
        }
        everyPromiseIsTested(said);
        if (Files.isReadable(DOCUMENT)) {
            everySentenceIsQuoted(Files.readString(DOCUMENT).replaceAll("\\s+", " "), said);
        } else {
            System.out.println("no document at " + DOCUMENT + ": its sentences are not compared");
        }
        Check.end();
    }
}
