import java.io.IOException;
import java.nio.file.Files;
import java.nio.file.Path;
import java.util.List;

/**
 * The boundary cases against the document: the words that a case holds stand where it says, and no word of a promise or
 * of 'Terms' is without a case.
 */
public final class DocumentTest {
    private static final Path DOCUMENT = Path.of("../shared/DOC.md");
    private static final int PROMISES = 36;

    public static void main(String[] args) throws IOException {
        Edges edges = new Edges();
        RowsEdgesTest.list(edges);
        TransformsEdgesTest.list(edges);
        ProductsEdgesTest.list(edges);
        DigitsEdgesTest.list(edges);
        PrimeEdgesTest.list(edges);
        InterpolateEdgesTest.list(edges);
        FitsAndDoublesEdgesTest.list(edges);
        ToldEdgesTest.list(edges);
        TermsEdgesTest.list(edges);
        String document = Files.readString(DOCUMENT);
        eachWordHasACase("Terms", terms(document), edges.all(), Edges.TERMS);
        for (int promise = 1; promise <= PROMISES; promise++) {
            eachWordHasACase("promise " + promise, promise(document, promise), edges.all(), promise);
        }
        Check.holds("there is no promise " + (PROMISES + 1), !document.contains("## Promise " + (PROMISES + 1)));
        System.out.println("DocumentTest: " + edges.all().size() + " boundary cases in all");
        Check.finish("DocumentTest");
    }

    private static void eachWordHasACase(String where, String text, List<Edges.Edge> edges, int promise) {
        boolean[] held = new boolean[text.length()];
        for (Edges.Edge edge : edges) {
            if (edge.promise() != promise) continue;
            String words = oneLine(edge.words());
            int at = text.indexOf(words);
            Check.holds(where + " says '" + words + "'", at >= 0 && !words.isEmpty());
            for (; at >= 0 && !words.isEmpty(); at = text.indexOf(words, at + 1)) {
                java.util.Arrays.fill(held, at, at + words.length(), true);
            }
        }
        StringBuilder without = new StringBuilder();
        for (int i = 0; i < held.length; i++) {
            if (!held[i] && Character.isLetterOrDigit(text.charAt(i))) without.append(text.charAt(i));
            if (!held[i] && text.charAt(i) == ' ' && without.length() > 0) without.append(' ');
        }
        Check.holds(where + " has words without a case: " + without.toString().trim(), without.toString().isBlank());
    }

    /** From the heading to the next one, without the call's own line in backquotes. */
    private static String promise(String document, int promise) {
        String section = between(document, "## Promise " + promise + ":", "\n## ");
        int opened = section.indexOf('`');
        int closed = section.indexOf("`: ", opened + 1);
        return opened < 0 || closed < 0 ? section : oneLine(section.substring(closed + 3));
    }

    /**
     * The section's words, without the numbers of its parts and without the lines on where the calls stand; and how many
     * calls an object is for, which stands ahead of it.
     */
    private static String terms(String document) {
        StringBuilder text = new StringBuilder("An object is used");
        text.append(between(document, "An object is used", "\n")).append('\n');
        for (String line : between(document, "## Terms", "\n## ").split("\n")) {
            if (line.startsWith("Ahead of the calls") || line.startsWith("```")) continue;
            text.append(line.replaceFirst("^==== [12] ", "")).append('\n');
        }
        return oneLine(text.toString());
    }

    private static String between(String document, String from, String to) {
        int start = document.indexOf(from);
        Check.holds("the document has '" + from + "'", start >= 0);
        if (start < 0) return "";
        int end = document.indexOf(to, start + from.length());
        return document.substring(start + from.length(), end < 0 ? document.length() : end);
    }

    private static String oneLine(String text) {
        return text.replaceAll("\\s+", " ").trim();
    }
}
