import java.io.IOException;
import java.io.UncheckedIOException;
import java.nio.file.Files;
import java.nio.file.Path;
import java.util.LinkedHashMap;
import java.util.LinkedHashSet;
import java.util.List;
import java.util.Map;
import java.util.Set;
import java.util.regex.Matcher;
import java.util.regex.Pattern;

/** The sentences of ../shared/DOC.md by section: a paragraph of 'Terms' with its name, or a promise. */
final class Document {
    private static final Pattern TERM = Pattern.compile("^(Goods|Borrowers|The desk|Loans|Granting|Repayment|Days"
            + "|Defaults|Ledger|Commands|Undo|Errors)\\. ");
    private static final Set<String> WITHOUT_TEST = Set.of(
            "A lending desk that grants loans against collateral, with interest, margin calls, defaults, and a ledger.",
            "The class is not thread-safe.",
            "A program in the input buffer has this grammar, where { x } means zero or more repetitions of x and a"
                    + " vertical bar separates alternatives:");
    /** An argument of a promise that needs a test of its own has a range; the others are named in what is thrown. */
    private static final Pattern PLAIN_ARGUMENT = Pattern.compile("^- (?!.*(\\d|: any )).*");

    private final Map<String, Set<String>> sections = new LinkedHashMap<>();

    static Document read() {
        try {
            return new Document(Files.readString(Path.of("../shared/DOC.md")));
        } catch (IOException e) {
            throw new UncheckedIOException(e);
        }
    }

    private Document(String text) {
        for (String part : text.split("(?m)^## ")) {
            String title = part.lines().findFirst().orElse("");
            if (title.equals("What it is") || title.equals("Terms") || title.startsWith("Promise ")) {
                readPart(title.replaceFirst(":.*", ""), part.substring(title.length()));
            }
        }
    }

    private void readPart(String title, String body) {
        String section = title;
        for (String paragraph : body.split("\n\n+")) {
            String text = paragraph.trim();
            Matcher term = TERM.matcher(text);
            if (title.equals("Terms") && term.find()) {
                section = term.group(1);
                text = text.substring(term.end());
            }
            Set<String> sentences = sections.computeIfAbsent(section, s -> new LinkedHashSet<>());
            if (text.startsWith("- ")) {
                sentences.addAll(text.lines().toList());
            } else if (!text.isEmpty()) {
                String flat = text.replaceFirst("^`[^`]*`: ", "").replaceAll("\\s+", " ");
                sentences.addAll(List.of(flat.split("(?<=\\.) (?=[A-Z])")));
            }
        }
    }

    boolean holds(String section, String sentence) {
        return sections.containsKey(section) && sections.get(section).contains(sentence);
    }

    Set<String> sectionNames() {
        return sections.keySet();
    }

    /** The sentences of a section that must have a test of their own. */
    Set<String> toBeTested(String section) {
        Set<String> due = new LinkedHashSet<>();
        for (String sentence : sections.get(section)) {
            if (!WITHOUT_TEST.contains(sentence) && !PLAIN_ARGUMENT.matcher(sentence).matches()) {
                due.add(sentence);
            }
        }
        return due;
    }
}
