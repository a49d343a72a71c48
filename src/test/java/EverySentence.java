import java.io.IOException;
import java.nio.file.Files;
import java.nio.file.Path;
import java.util.ArrayList;
import java.util.List;
import java.util.Map;
import java.util.TreeMap;

/**
 * Runs the tests of single sentences, and looks whether each sentence of the document's sections and
 * promises is named by one of them; the first argument is the path of the class's source.
 */
public final class EverySentence {
    /** The document's first line only lists what the sections tell. */
    private static final String SUMMARY = "Chains of lines: ";

    private EverySentence() { }

    public static void main(String[] args) throws IOException {
        TermSentences.all();
        LawSentences.all();
        BookSentences.all();
        ChainSentences.all();
        SearchSentences.all();
        ChangeSentences.all();
        TextSentences.all();
        OrderSentences.all();
        SectionSentences.all();
        Path source = Path.of(args.length > 0 ? args[0] : "src/main/java/Chainwork.java");
        Path document = source.toAbsolutePath().getParent().resolve("../../../../shared/DOC.md").normalize();
        Map<String, List<String>> due = sentences(Files.readAllLines(document));
        Due.same("sections and promises", due.size(), 1 + 10 + 52);
        for (Map.Entry<String, List<String>> part : due.entrySet()) {
            for (String line : part.getValue()) {
                Due.text(part.getKey() + ", what no test names", unnamed(part.getKey(), line), "");
            }
            for (String words : Sentence.NAMED.getOrDefault(part.getKey(), List.of())) {
                boolean isThere = part.getValue().stream().anyMatch(line -> line.contains(words));
                Due.yes(part.getKey() + " \"" + words + "\" stands in the document", isThere);
            }
        }
        Due.end("EverySentence");
    }

    /** What is left of a line without the words that tests name, and without what stands between those. */
    private static String unnamed(String where, String line) {
        String left = line;
        List<String> named = new ArrayList<>(Sentence.NAMED.getOrDefault(where, List.of()));
        named.sort((one, other) -> other.length() - one.length());
        for (String words : named) {
            left = left.replace(words, " ");
        }
        return left.replaceAll("[ ,.;:()]+", " ").trim();
    }

    /** The lines of each section and promise, without the marks of lists and the heads of calls. */
    private static Map<String, List<String>> sentences(List<String> lines) {
        Map<String, List<String>> parts = new TreeMap<>();
        String part = null;
        for (String line : lines) {
            if (line.startsWith("## Promise ")) {
                part = line.substring(3, line.indexOf(':'));
            } else if (line.startsWith("## ")) {
                part = line.equals("## What it is") ? "What it is" : null;
            } else if (line.matches("\\d+\\. .*")) {
                part = "Section " + line.substring(0, line.indexOf('.'));
            } else if (part != null && !line.isBlank() && !line.startsWith(SUMMARY)) {
                parts.computeIfAbsent(part, none -> new ArrayList<>()).add(bare(line));
            }
        }
        return parts;
    }

    private static String bare(String line) {
        if (line.startsWith("- ")) {
            return line.substring(2);
        }
        boolean isHead = line.matches("`(int|long|boolean|double|float)? ?\\w+\\(.*`: .*");
        return isHead ? line.substring(line.indexOf("`: ") + 3) : line;
    }
}
