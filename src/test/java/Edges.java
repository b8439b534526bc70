import java.io.IOException;
import java.util.ArrayList;
import java.util.List;
import java.util.function.Consumer;

/** Runs edge tests, each by itself; each names its promise and quotes the words that it would find broken. */
final class Edges {
    private final Document document;
    private final Checks held = new Checks("EdgesTest");
    private final List<List<String>> quoted = new ArrayList<>();
    private int edges;
    private int asked;
    private int wrong;

    Edges() throws IOException {
        document = new Document();
        for (int i = 0; i <= Document.PROMISES; i++) {
            quoted.add(new ArrayList<>());
        }
    }

    /** The words stand in the promise's own section, or in the terms. */
    void edge(int promise, String words, Consumer<Checks> test) {
        String name = "promise " + promise + ", \"" + words + "\"";
        held.due("the document says " + name, document.says(promise, words), true);
        quoted.get(promise).add(words);
        quoted.get(Document.TERMS).add(words);
        Checks c = new Checks(name);
        try {
            test.accept(c);
        } catch (RuntimeException e) {
            c.tell("threw " + e);
        }
        if (c.asked() == 0) {
            c.tell("asked for nothing");
        }
        edges++;
        asked += c.asked();
        wrong += c.wrong();
    }

    private boolean isQuoted(int number, String sentence) {
        return quoted.get(number).stream().anyMatch(words -> sentence.contains(words) || words.contains(sentence));
    }

    /** A sentence that no edge test quotes is a fault, too. */
    void end() {
        for (int number = 0; number <= Document.PROMISES; number++) {
            List<String> sentences = document.sentences(number);
            held.due("sentences in section " + number, !sentences.isEmpty(), true);
            for (String sentence : sentences) {
                held.due("an edge test for '" + sentence + "' in section " + number, isQuoted(number, sentence), true);
            }
        }
        System.out.println("EdgesTest: " + edges + " edge tests, " + asked + " answers asked for, "
                + wrong + " not as due");
        if (wrong != 0) {
            System.exit(1);
        }
        held.end();
    }
}
