import java.io.IOException;
import java.nio.file.Files;
import java.nio.file.Path;
import java.util.ArrayList;
import java.util.LinkedHashMap;
import java.util.List;
import java.util.Map;
import java.util.Set;
import java.util.regex.Matcher;
import java.util.regex.Pattern;

/** The document, section by section and clause by clause: which of its words the tests are about, and which not. */
final class Doc {
    private static final Path PLACE = Path.of("../shared/DOC.md");
    private static final Pattern CAPITALS = Pattern.compile("^([A-Z]{2,}( [A-Z]+)*)[. ].*");
    /** Headings, words that only lead to what follows, and one that leaves an answer free: there is nothing to test. */
    private static final Set<String> SILENT = Set.of("Error codes:", "A tick t consists of these steps:", "Otherwise:",
        "A family is written as", "The constructor and the methods follow, a promise each:",
        "the signature, then what it does.", "---- families", "---- what is told", "---- what would be",
        "what later calls answer is free.");

    private static final class Section {
        final StringBuilder text = new StringBuilder();
        final List<int[]> clauses = new ArrayList<>();
        final List<int[]> named = new ArrayList<>();

        void add(String line) {
            String words = line.trim().replaceFirst("^[1-5][.] ", "");
            for (String clause : words.split("(?<=[^`][.;:]) +")) {
                int begin = text.length();
                text.append(clause).append(' ');
                clauses.add(new int[] {begin, begin + clause.length()});
            }
        }

        boolean isNamed(int[] clause) {
            return named.stream().anyMatch(one -> one[0] < clause[1] && clause[0] < one[1]);
        }
    }

    private final Map<String, Section> sections = new LinkedHashMap<>();

    Doc() throws IOException {
        String heading = "";
        for (String line : Files.readAllLines(PLACE)) {
            Matcher capitals = CAPITALS.matcher(line);
            if (line.startsWith("## ")) {
                heading = line.substring(3).replaceAll(":.*", "");
            } else if (capitals.matches()) {
                heading = capitals.group(1);
            }
            String heard = capitals.matches() ? line.substring(heading.length()).replaceFirst("^[.]", "") : line;
            if (!line.isBlank() && !line.startsWith("#") && !line.startsWith("`")) {
                sections.computeIfAbsent(heading, k -> new Section()).add(heard);
            }
        }
    }

    /** Answers whether the words stand in that section, and keeps in mind that a test is about them. */
    boolean says(String section, String words) {
        Section place = sections.get(section);
        int begin = place == null ? -1 : place.text.indexOf(words);
        if (begin < 0) {
            return false;
        }
        place.named.add(new int[] {begin, begin + words.length()});
        return true;
    }

    /** The clauses that no test has named, but for those that promise nothing. LanguageTest looks at the face. */
    List<String> unnamedClauses() {
        List<String> found = new ArrayList<>();
        sections.forEach((name, section) -> {
            for (int[] clause : section.clauses) {
                String words = section.text.substring(clause[0], clause[1]);
                boolean promises = !name.equals("Not promised") && !name.equals("The public face");
                if (promises && !SILENT.contains(words) && !section.isNamed(clause)) {
                    found.add(name + ": " + words);
                }
            }
        });
        return found;
    }
}
