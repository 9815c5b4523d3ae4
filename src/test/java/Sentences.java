import java.io.IOException;
import java.nio.file.Files;
import java.nio.file.Path;
import java.util.ArrayList;
import java.util.LinkedHashMap;
import java.util.List;
import java.util.Map;
import java.util.TreeSet;

/**
 * Runs a case for each sentence of the document. A case names the section and quotes the sentence that it holds;
 * a quote that the document does not have is a fault, and so is a sentence that no case quotes.
 */
final class Sentences {
    interface Case {
        void run(Check check);
    }

    private static final Path DOCUMENT = Path.of("../shared/DOC.md");

    private final Check check = new Check();
    private final Map<String, List<String>> sections = new LinkedHashMap<>();
    private final Map<String, List<String>> quotes = new LinkedHashMap<>();
    private final TreeSet<String> broken = new TreeSet<>();
    private String section = "";
    private int cases;

    Sentences() throws IOException {
        String name = "";
        for (String line : Files.readAllLines(DOCUMENT)) {
            String text = line.trim();
            String begun = sectionBegun(text);
            if (begun != null) {
                name = begun;
            } else if (!text.isEmpty() && !name.isEmpty() && !isFrame(text)) {
                // a line may hold several sentences
                for (String sentence : text.split("(?<=\\.) (?=[A-Z])")) {
                    sections.computeIfAbsent(name, key -> new ArrayList<>()).add(sentence);
                }
            }
        }
    }

    /** The name of the section that a line begins, "" for one that promises no answers; null for other lines. */
    private static String sectionBegun(String line) {
        if (line.startsWith("## Promise ")) {
            return line.substring(3, line.indexOf(':'));
        }
        if (line.startsWith("#")) {
            return line.equals("## What it is") ? "What it is" : "";
        }
        if (line.matches("\\d\\. [A-Z ]+")) {
            return line;
        }
        return line.equals("The constants:") ? "The constants" : null;
    }

    /** Signatures, the names of groups, and the line that leads over to the promises. */
    private static boolean isFrame(String line) {
        return line.startsWith("----") || line.startsWith("`") || line.startsWith("The constructor and the methods");
    }

    void section(String name) {
        section = name;
    }

    /** Runs a case for a sentence, or for a part of one, of the present section. */
    Sentences hold(String sentence, Case test) {
        cases++;
        int wrong = check.wrong();
        and(sentence);
        int checks = check.checks();
        try {
            test.run(check);
        } catch (RuntimeException e) {
            check.same("the case", "no exception", e.toString());
        }
        check.isTrue("the case asks something", check.checks() > checks);
        if (check.wrong() > wrong) {
            broken.add(section + ": " + sentence);
        }
        return this;
    }

    /** Another sentence of the section that the latest case holds, too. */
    Sentences and(String sentence) {
        check.about(section + ": " + sentence);
        String whole = String.join(" ", sections.getOrDefault(section, List.of()));
        check.isTrue("the document says so", whole.contains(sentence));
        quotes.computeIfAbsent(section, key -> new ArrayList<>()).add(sentence);
        return this;
    }

    void end(String test) {
        check.about("");
        int sentences = 0;
        for (Map.Entry<String, List<String>> entry : sections.entrySet()) {
            for (String sentence : entry.getValue()) {
                sentences++;
                check.isTrue("a case for " + entry.getKey() + ": " + sentence, isQuoted(entry.getKey(), sentence));
            }
        }
        for (String name : broken) {
            System.out.println("broken: " + name);
        }
        System.out.println(test + ": " + cases + " cases for " + sentences + " sentences");
        check.end(test);
    }

    private boolean isQuoted(String name, String sentence) {
        for (String quote : quotes.getOrDefault(name, List.of())) {
            if (sentence.contains(quote) || quote.contains(sentence)) {
                return true;
            }
        }
        return false;
    }
}
