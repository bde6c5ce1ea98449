import java.util.ArrayList;
import java.util.List;
import java.util.TreeMap;

/**
 * Tests of the document's sentences, each under its own words. Section 0 is what stands ahead of the promises,
 * section n is promise n.
 */
final class Edges {
    private record Quote(int section, String words) {
    }

    private final List<Quote> quotes = new ArrayList<>();

    /** Runs a test of some words of a section. */
    void edge(int section, String words, Runnable test) {
        quotes.add(new Quote(section, words));
        Check.about((section == 0 ? "" : section + " ") + words);
        int before = Check.checks();
        test.run();
        Check.isTrue("nothing is tested", Check.checks() > before);
        Check.about("");
    }

    /** That the document says what is quoted, and that it says nothing that is not. */
    void holdAgainst(String document) {
        TreeMap<Integer, String> sections = sectionsOf(document);
        TreeMap<Integer, boolean[]> quoted = new TreeMap<>();
        sections.forEach((section, words) -> quoted.put(section, new boolean[words.length()]));
        for (Quote quote : quotes) {
            String words = sections.getOrDefault(quote.section, "");
            int from = words.indexOf(quote.words);
            Check.isTrue("section " + quote.section + " does not say: " + quote.words, from >= 0);
            while (from >= 0) {
                for (int i = 0; i < quote.words.length(); i++) {
                    quoted.get(quote.section)[from + i] = true;
                }
                from = words.indexOf(quote.words, from + 1);
            }
        }
        sections.forEach((section, words) -> {
            String rest = unquoted(words, quoted.get(section));
            Check.isTrue("section " + section + " says, and no test quotes: " + rest, rest.isEmpty());
        });
    }

    private static String unquoted(String words, boolean[] quoted) {
        StringBuilder rest = new StringBuilder();
        for (int i = 0; i < words.length(); i++) {
            if (!quoted[i] && words.charAt(i) != ' ') {
                rest.append(words.charAt(i));
            }
        }
        return rest.toString();
    }

    private static TreeMap<Integer, String> sectionsOf(String document) {
        TreeMap<Integer, StringBuilder> sections = new TreeMap<>();
        int section = -1;
        for (String line : document.split("\n")) {
            if (line.startsWith("## ")) {
                section = numberOf(line);
            } else if (section >= 0 && !line.startsWith("```") && !line.startsWith("Ahead of the calls")) {
                sections.computeIfAbsent(section, s -> new StringBuilder()).append(' ').append(line);
            } else if (line.startsWith("An object is used")) {
                sections.computeIfAbsent(0, s -> new StringBuilder()).append(line);
            }
        }
        TreeMap<Integer, String> plain = new TreeMap<>();
        sections.forEach((s, words) -> plain.put(s, words.toString().replaceAll("======== \\d", " ")
                .replaceAll("`[^`]*`:", " ").replaceAll("\\s+", " ").trim()));
        return plain;
    }

    private static int numberOf(String heading) {
        if (heading.equals("## Terms")) {
            return 0;
        }
        return heading.startsWith("## Promise ") ? Integer.parseInt(heading.replaceAll("## Promise (\\d+):.*", "$1")) : -1;
    }
}
