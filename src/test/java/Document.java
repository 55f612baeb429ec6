import java.io.IOException;
import java.nio.file.Files;
import java.nio.file.Path;
import java.util.ArrayList;
import java.util.LinkedHashMap;
import java.util.List;
import java.util.Map;
import java.util.regex.Pattern;

/** The sentences of the document, section by section. */
final class Document {
    /** What makes a sentence of a promise name a boundary; an example of a call's text does not count. */
    private static final Pattern BOUNDARY = Pattern.compile(
            "^Throws |[0-9]|\\b(negative|initially|empty|replacing|stays|Afterwards|previous|never|least|none)\\b");

    private final Map<String, List<String>> sections = new LinkedHashMap<>();

    Document(Path path) throws IOException {
        String text = Files.readString(path).replaceAll("(?s)<pre>.*?</pre>", "").replaceAll("(?s)```.*?```", "");
        List<String> sentences = new ArrayList<>();
        for (String row : text.split("\n")) {
            if (row.startsWith("## ")) {
                sentences = new ArrayList<>();
                sections.put(row.substring(3).replaceAll(":.*", ""), sentences);
            } else {
                sentences.addAll(sentencesOf(row));
            }
        }
    }

    /** A row may begin with the face of a call, or with the stroke of a list. */
    private static List<String> sentencesOf(String row) {
        List<String> sentences = new ArrayList<>();
        for (String sentence : row.trim().replaceAll("^`[^`]*`: |^- ", "").split("(?<=[.:]) (?=[A-Z])")) {
            if (sentence.contains(" ") && !sentence.startsWith("#")) {
                sentences.add(sentence);
            }
        }
        return sentences;
    }

    List<String> sentences(String section) {
        return sections.getOrDefault(section, List.of());
    }

    /** The sentences of a section that must have a case of their own. */
    List<String> boundaries(String section) {
        List<String> boundaries = new ArrayList<>();
        for (String sentence : sentences(section)) {
            boolean isTerm = section.equals("Terms") && !sentence.startsWith("Ahead of the calls");
            if (isTerm || !section.equals("Terms") && BOUNDARY.matcher(sentence).find()) {
                boundaries.add(sentence);
            }
        }
        return boundaries;
    }
}
