import java.io.IOException;
import java.nio.file.Files;
import java.nio.file.Path;
import java.util.ArrayList;
import java.util.BitSet;
import java.util.List;
import java.util.Map;
import java.util.TreeMap;
import java.util.regex.Matcher;
import java.util.regex.Pattern;

/**
 * The document itself, cut into what holds for every promise (0) and the promises 1 to 28. A sentence that stands
 * beside a test must stand in the document, and a sentence of the document must stand beside a test.
 */
final class Doc {
    private static final Path PATH = Path.of("../shared/DOC.md");
    private static final Pattern SECTION = Pattern.compile("(?s)## ([^\n]*)\n(.*?)(?=\n## |\\z)");
    private static final Pattern SIGNATURE = Pattern.compile("^\\s*`[^`]*`: ");

    private static final Map<Integer, String> TEXTS = new TreeMap<>();
    private static final Map<Integer, BitSet> QUOTED = new TreeMap<>();
    /** Told once at the end, where nobody is bound to anything by it. */
    private static String notPromised = "";

    private Doc() {
    }

    static void load() throws IOException {
        if (!Files.exists(PATH)) {
            System.out.println("no " + PATH + " here: the sentences are not held against it");
            return;
        }
        StringBuilder all = new StringBuilder();
        Matcher section = SECTION.matcher(Files.readString(PATH));
        while (section.find()) {
            String title = section.group(1);
            if (title.startsWith("Promise ")) {
                int promise = Integer.parseInt(title.substring(8, title.indexOf(':')));
                TEXTS.put(promise, plain(SIGNATURE.matcher(section.group(2)).replaceFirst("")));
            } else if (title.equals("What it is")) {
                all.append(section.group(2).substring(section.group(2).indexOf("An object is used")));
            } else if (title.equals("Terms")) {
                all.append(' ').append(terms(section.group(2)));
            } else if (title.equals("Not promised")) {
                notPromised = plain(section.group(2));
            }
        }
        TEXTS.put(0, plain(all.toString()));
        for (int part : TEXTS.keySet()) {
            QUOTED.put(part, new BitSet());
        }
        for (int promise = 0; promise <= 28; promise++) {
            Check.holds("the document has promise " + promise, TEXTS.containsKey(promise));
        }
    }

    /** Fences, numbers of paragraphs and the lists of calls tell nothing that could hold or not. */
    private static String terms(String text) {
        return text.replaceAll("```(text)?", "").replaceAll("==== [1-3] ", "")
            .replaceAll("Ahead of the calls [^\n]*---- (1 loops|2 spans, boxes|3 what is done)\\.", "")
            .replaceAll("Ahead of the calls [^\n]*---- ", "");
    }

    private static String plain(String text) {
        return text.replaceAll("\\s+", " ").trim();
    }

    /** Marks a sentence as told beside a test of a promise; false if the document has no such sentence there. */
    static boolean quote(int promise, String sentence) {
        return TEXTS.isEmpty() || mark(promise, sentence) | mark(0, sentence) | notPromised.contains(sentence);
    }

    private static boolean mark(int part, String sentence) {
        String text = TEXTS.getOrDefault(part, "");
        int from = text.indexOf(sentence);
        boolean found = from >= 0;
        while (from >= 0) {
            QUOTED.get(part).set(from, from + sentence.length());
            from = text.indexOf(sentence, from + 1);
        }
        return found;
    }

    /** What no test has beside it, but for stops between sentences. */
    static List<String> unquoted() {
        List<String> left = new ArrayList<>();
        TEXTS.forEach((part, text) -> {
            BitSet quoted = QUOTED.get(part);
            for (int from = quoted.nextClearBit(0); from < text.length(); ) {
                int to = quoted.nextSetBit(from);
                to = to < 0 ? text.length() : to;
                String piece = text.substring(from, to);
                if (piece.matches(".*[A-Za-z0-9].*")) {
                    left.add((part == 0 ? "for every promise" : "promise " + part) + ": " + piece);
                }
                from = quoted.nextClearBit(to);
            }
        });
        return left;
    }
}
