import java.io.IOException;
import java.nio.file.Files;
import java.nio.file.Path;
import java.util.ArrayList;
import java.util.List;

/** The document's terms and promises, cut into sentences, so that a test can be held against its words. */
final class Document {
    /** Stands for the section 'Terms', where a promise's number stands else. */
    static final int TERMS = 0;
    static final int PROMISES = 19;

    private final String[] sections = new String[PROMISES + 1];
    private final String[] calls = new String[PROMISES + 1];

    Document() throws IOException {
        String text = Files.readString(Path.of("../shared/DOC.md"));
        for (String part : text.split("(?m)^## ")) {
            int end = part.indexOf('\n');
            String title = end < 0 ? part : part.substring(0, end);
            if (title.equals("Terms")) {
                sections[TERMS] = plain(part.substring(end));
            } else if (title.matches("Promise [0-9]+: .*")) {
                int promise = Integer.parseInt(title.substring(8, title.indexOf(':')));
                sections[promise] = plain(part.substring(end));
                calls[promise] = part.substring(end).strip().replaceFirst("(?s)^`([^`]*?)( throws [^`]*)?`.*", "$1");
            }
        }
    }

    /** Without the signature at its beginning. */
    private static String plain(String body) {
        return body.strip().replaceAll("\\s+", " ").replaceFirst("^`[^`]*`: ", "");
    }

    private String section(int number) {
        return sections[number] == null ? "" : sections[number];
    }

    /** As the document writes it, without what it throws. */
    String call(int promise) {
        return calls[promise] == null ? "" : calls[promise];
    }

    boolean says(int promise, String words) {
        return section(promise).contains(words) || section(TERMS).contains(words);
    }

    List<String> sentences(int number) {
        List<String> found = new ArrayList<>();
        for (String piece : section(number).split("(?<!\\.)\\.(?=\\)? |$)|[;:] ")) {
            String sentence = piece.strip().replaceFirst("^\\)", "").strip();
            if (!sentence.isEmpty()) {
                found.add(sentence);
            }
        }
        return found;
    }
}
