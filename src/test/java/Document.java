import java.io.IOException;
import java.nio.file.Files;
import java.nio.file.Path;
import java.util.ArrayList;
import java.util.HashMap;
import java.util.List;
import java.util.Map;
import java.util.TreeSet;
import java.util.regex.Matcher;
import java.util.regex.Pattern;

/** The document itself, to see that tests quote it right and leave out none of its refusals. */
final class Document {

    private static final Pattern PROMISE = Pattern.compile("## Promise (\\d+): .*");
    private static final Pattern TERM = Pattern.compile("(\\d)\\. .*");

    private final Map<String, List<String>> sections = new HashMap<>();

    private Document(List<String> lines) {
        String section = "start";
        for (String line : lines) {
            section = sectionAfter(section, line);
            sections.computeIfAbsent(section, name -> new ArrayList<>()).add(line);
        }
    }

    /** Compares the quotes with the document in the folder that the property "shared" names, if it is there. */
    static void compare(Check check, boolean whole) {
        Path path = Path.of(System.getProperty("shared", "../shared"), "DOC.md");
        if (!Files.isRegularFile(path)) {
            System.out.println("the quotes were not compared: no " + path);
            return;
        }
        List<Check.Quote> quotes = List.copyOf(check.quotes());
        Document document = new Document(linesOf(path));
        document.holdsQuotes(check, quotes);
        if (whole) {
            document.isQuotedWhole(check, quotes);
        }
    }

    private static List<String> linesOf(Path path) {
        try {
            return Files.readAllLines(path);
        } catch (IOException e) {
            throw new IllegalStateException("the document can't be read", e);
        }
    }

    private static String sectionAfter(String section, String line) {
        Matcher promise = PROMISE.matcher(line);
        if (promise.matches()) {
            return "P" + promise.group(1);
        }
        if (line.startsWith("## ")) {
            return line.substring(3);
        }
        Matcher term = TERM.matcher(line);
        boolean inTerms = section.equals("Terms") || section.startsWith("T") && section.length() == 2;
        return inTerms && term.matches() ? "T" + term.group(1) : section;
    }

    private void holdsQuotes(Check check, List<Check.Quote> quotes) {
        for (Check.Quote quote : quotes) {
            String text = String.join("\n", sections.getOrDefault(quote.section(), List.of()));
            check.yes("\"" + quote.words() + "\" stands in " + quote.section(), text.contains(quote.words()));
        }
    }

    private void isQuotedWhole(Check check, List<Check.Quote> quotes) {
        for (String section : new TreeSet<>(sections.keySet())) {
            if (!section.matches("P\\d+")) {
                continue;
            }
            check.yes(section + " is quoted", quotes.stream().anyMatch(quote -> quote.section().equals(section)));
            for (String line : sections.get(section)) {
                if (line.startsWith("Throws ")) {
                    check.yes(section + " \"" + line + "\" is quoted", quotes.contains(new Check.Quote(section, line)));
                }
            }
        }
    }
}
