import java.io.IOException;
import java.nio.file.Path;
import java.util.HashSet;
import java.util.Set;

/**
 * Cases that quote the sentence of the document that each of them holds to. A case has an object of
 * its own, and a sentence that names a boundary and has no case is a fault.
 */
abstract class SentenceCases extends Bench {
    private final Document document;
    private final Set<String> quoted = new HashSet<>();
    private String section = "";

    SentenceCases(Path path) throws IOException {
        document = new Document(path);
    }

    /** The cases that follow quote this section; the section before must be complete. */
    void section(String name) {
        endSection();
        section = name;
        quoted.clear();
    }

    void endSection() {
        where = section + ": ";
        for (String sentence : document.boundaries(section)) {
            due("a case for '" + sentence + "'", quoted.contains(sentence), true);
        }
    }

    /** Runs a case on a new object. Several cases may quote one sentence. */
    void holds(String sentence, Runnable body) {
        where = section + ", '" + sentence + "': ";
        due("the quoted sentence stands there", document.sentences(section).contains(sentence), true);
        quoted.add(sentence);
        fresh();
        try {
            body.run();
        } catch (RuntimeException e) {
            due("the whole case", e, "no exception");
        }
    }
}
