import java.nio.charset.StandardCharsets;
import java.nio.file.Files;
import java.nio.file.Path;
import java.util.ArrayList;
import java.util.Arrays;
import java.util.LinkedHashMap;
import java.util.List;
import java.util.Map;

/** The words of ../shared/DOC.md by its parts, and which of them are named by a test. */
final class Document {
    private static final Path PLACE = Path.of("../shared/DOC.md");

    /** Each promise is a part, and each part of "Terms" that has a heading in capitals. */
    private final Map<String, String> parts = new LinkedHashMap<>();
    private final Map<String, boolean[]> named = new LinkedHashMap<>();

    Document() throws Exception {
        if (isMissing()) {
            return;
        }
        String chapter = "";
        String part = "";
        for (String line : Files.readAllLines(PLACE, StandardCharsets.UTF_8)) {
            if (line.startsWith("#")) {
                chapter = line.replaceAll("^#+ ", "");
                part = chapter;
            } else if (chapter.equals("Terms") && line.matches("[A-Z ]+")) {
                part = chapter + ": " + line;
            } else {
                String words = parts.getOrDefault(part, "") + " " + line;
                parts.put(part, words.replaceAll("\\s+", " ").strip());
            }
        }
        parts.forEach((name, words) -> named.put(name, new boolean[words.length()]));
    }

    static boolean isMissing() {
        return !Files.exists(PLACE);
    }

    /** Where a sentence stands, in the order of the document. */
    int place(Sentence sentence) {
        int place = 0;
        for (Map.Entry<String, String> part : parts.entrySet()) {
            if (part.getKey().equals(sentence.of())) {
                return place + Math.max(0, part.getValue().indexOf(sentence.says()));
            }
            place += part.getValue().length();
        }
        return place;
    }

    /** Marks the words of a sentence as named by a test; returns whether the document has them there. */
    boolean name(Sentence sentence) {
        if (isMissing()) {
            return true;
        }
        String words = parts.getOrDefault(sentence.of(), "");
        int first = words.indexOf(sentence.says());
        for (int at = first; at >= 0; at = words.indexOf(sentence.says(), at + 1)) {
            Arrays.fill(named.get(sentence.of()), at, at + sentence.says().length(), true);
        }
        return first >= 0;
    }

    /** What stands in "Terms" and the promises and is named by no test, but for pieces of a plain form. */
    List<String> unnamed(List<String> plainForms) {
        List<String> rest = new ArrayList<>();
        parts.forEach((name, words) -> {
            if (name.startsWith("Terms: ") || name.startsWith("Promise ")) {
                for (String piece : pieces(words, named.get(name))) {
                    if (piece.matches(".*\\w.*") && plainForms.stream().noneMatch(piece::matches)) {
                        rest.add(name + " | " + piece);
                    }
                }
            }
        });
        return rest;
    }

    private static List<String> pieces(String words, boolean[] leftOut) {
        StringBuilder left = new StringBuilder();
        for (int i = 0; i < words.length(); i++) {
            left.append(leftOut[i] ? '\n' : words.charAt(i));
        }
        return left.toString().lines().map(String::strip).toList();
    }
}
