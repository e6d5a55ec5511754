import java.io.IOException;
import java.nio.file.Files;
import java.nio.file.Path;
import java.util.ArrayList;
import java.util.LinkedHashMap;
import java.util.List;
import java.util.Map;
import java.util.regex.Matcher;
import java.util.regex.Pattern;

/** The document, section by section and clause by clause: which of its words the tests are about, and which not. */
final class Doc {
    private static final Path PLACE = Path.of("../shared/DOC.md");
    private static final Pattern CAPITALS = Pattern.compile("^([A-Z]{2,}( [A-Z]+)*)[. ].*");
    /** A clause with one of these words names an edge. */
    private static final Pattern EDGE = Pattern.compile("\\d+ to \\d+|\\bat most|\\bat least|\\bat first|\\bBAD|\\bSTATE"
        + "|\\bFULL|\\bNONE|small|great|\\babove|\\bless than|out of range|\\bnone\\b|\\bempty|Empties|as far as"
        + "|no more|any more|otherwise|too early|cannot|or before|multiple|until|11th|within four|digit 0|wraps around"
        + "|negative|so many|\\bif there|\\bif the|no such|from 0|rounded|all 10|in its range|ascending|\\bonly\\b"
        + "|going round|oldest|Nothing changes|changes nothing|\\bstays?\\b|has been closed|anywhere|no backlog");

    private static final class Section {
        final StringBuilder text = new StringBuilder();
        final List<int[]> clauses = new ArrayList<>();
        final List<int[]> named = new ArrayList<>();

        void add(String line) {
            for (String clause : line.trim().split("(?<=[.;:]) +")) {
                int begin = text.length();
                text.append(clause).append(' ');
                clauses.add(new int[] {begin, begin + clause.length()});
            }
        }

        boolean isNamed(int[] clause) {
            return named.stream().anyMatch(one -> one[0] < clause[1] && clause[0] < one[1]);
        }
    }

    private final Map<String, Section> sections = new LinkedHashMap<>();

    Doc() throws IOException {
        String heading = "";
        for (String line : Files.readAllLines(PLACE)) {
            Matcher capitals = CAPITALS.matcher(line);
            if (line.startsWith("## ")) {
                heading = line.substring(3).replaceAll(":.*", "");
            } else if (capitals.matches()) {
                heading = capitals.group(1);
            }
            String heard = capitals.matches() ? line.substring(heading.length()).replaceFirst("^[.]", "") : line;
            if (!line.isBlank() && !line.startsWith("#") && !line.startsWith("`")) {
                sections.computeIfAbsent(heading, k -> new Section()).add(heard);
            }
        }
    }

    /** Answers whether the words stand in that section, and keeps in mind that a test is about them. */
    boolean says(String section, String words) {
        Section place = sections.get(section);
        int begin = place == null ? -1 : place.text.indexOf(words);
        if (begin < 0) {
            return false;
        }
        place.named.add(new int[] {begin, begin + words.length()});
        return true;
    }

    /** The clauses that name an edge and that no test has named, but for those of sections that promise nothing. */
    List<String> unnamedEdges() {
        List<String> found = new ArrayList<>();
        sections.forEach((name, section) -> {
            for (int[] clause : section.clauses) {
                String words = section.text.substring(clause[0], clause[1]);
                boolean promises = !name.equals("Not promised") && !name.equals("The public face");
                if (promises && EDGE.matcher(words).find() && !section.isNamed(clause)) {
                    found.add(name + ": " + words);
                }
            }
        });
        return found;
    }
}
