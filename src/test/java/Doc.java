import java.io.IOException;
import java.io.UncheckedIOException;
import java.nio.file.Files;
import java.nio.file.Path;
import java.util.BitSet;
import java.util.Map;
import java.util.TreeMap;

/** The document's own words: each edge test says which it tries, and at the end none may be left that was not tried. */
final class Doc {
    private static final int TERMS = 0;
    private static final int PROMISES = 33;
    private static final Map<Integer, String> TEXTS = read(Path.of("../shared/DOC.md"));
    private static final Map<Integer, BitSet> TRIED = new TreeMap<>();

    private Doc() {
    }

    private static Map<Integer, String> read(Path path) {
        String all;
        try {
            all = Files.readString(path);
        } catch (IOException e) {
            throw new UncheckedIOException(e);
        }
        Map<Integer, String> texts = new TreeMap<>();
        String calls = part(all, "An object is used", "\n");
        String terms = part(all, "Words in capitals", "Ahead of the calls");
        texts.put(TERMS, plain(calls + " " + terms.replaceAll("```(text)?|======== [123]", "")));
        for (int p = 1; p <= PROMISES; p++) {
            String promise = part(all, "## Promise " + p + ":", p < PROMISES ? "## Promise " + (p + 1) + ":" : "## Not promised");
            texts.put(p, plain(promise.substring(promise.indexOf("`: ") + 3)));
        }
        return texts;
    }

    private static String part(String all, String from, String to) {
        int start = all.indexOf(from);
        return all.substring(start, all.indexOf(to, start));
    }

    private static String plain(String words) {
        return words.replaceAll("\\s+", " ").trim();
    }

    /** Words are looked for in the promise itself, then among the terms; false if they stand in neither. */
    static boolean tries(int promise, String words) {
        return marks(promise, words) || marks(TERMS, words);
    }

    private static boolean marks(int section, String words) {
        String text = TEXTS.get(section);
        int at = text.indexOf(words);
        for (int from = at; from >= 0; from = text.indexOf(words, from + 1)) {
            TRIED.computeIfAbsent(section, s -> new BitSet()).set(from, from + words.length());
        }
        return at >= 0;
    }

    /** What no test has said it tries, a line for each gap; empty if nothing is left but signs between words. */
    static String untried() {
        StringBuilder left = new StringBuilder();
        for (Map.Entry<Integer, String> e : TEXTS.entrySet()) {
            BitSet tried = TRIED.getOrDefault(e.getKey(), new BitSet());
            String text = e.getValue();
            for (int from = tried.nextClearBit(0); from < text.length(); from = tried.nextClearBit(from)) {
                int next = tried.nextSetBit(from);
                int to = next < 0 ? text.length() : next;
                String gap = text.substring(from, to);
                if (gap.matches(".*[A-Za-z0-9].*")) {
                    left.append(e.getKey() == TERMS ? "terms: " : "promise " + e.getKey() + ": ").append(gap).append('\n');
                }
                from = to;
            }
        }
        return left.toString();
    }
}
