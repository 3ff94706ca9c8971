import java.io.IOException;
import java.nio.file.Files;
import java.nio.file.Path;
import java.util.ArrayList;
import java.util.List;

/** ../shared/DOC.md: whether what a test quotes stands there, and what no test quotes. */
final class Document {
    static final int PROMISES = 37;

    /** A part of the document, and which of its letters have been quoted. */
    private static final class Part {
        final String text;
        final boolean[] quoted;

        Part(String text) {
            this.text = plain(text);
            quoted = new boolean[this.text.length()];
        }

        boolean quote(String sentence) {
            int at = text.indexOf(sentence);
            boolean stands = at >= 0;
            while (at >= 0) {
                for (int i = at; i < at + sentence.length(); i++) {
                    quoted[i] = true;
                }
                at = text.indexOf(sentence, at + 1);
            }
            return stands;
        }

        /** What has a letter or a figure and was not quoted. */
        List<String> left() {
            List<String> all = new ArrayList<>();
            StringBuilder run = new StringBuilder();
            for (int i = 0; i <= text.length(); i++) {
                if (i < text.length() && !quoted[i]) {
                    run.append(text.charAt(i));
                } else {
                    if (run.toString().matches(".*[A-Za-z0-9].*")) {
                        all.add(run.toString().trim());
                    }
                    run.setLength(0);
                }
            }
            return all;
        }
    }

    private Part terms = new Part("");
    private final Part[] promises = new Part[PROMISES + 1];

    Document(Path file) throws IOException {
        for (String section : Files.readString(file).split("\n## ")) {
            if (section.startsWith("Terms\n")) {
                terms = new Part(asking(section.substring("Terms\n".length())));
            }
            if (section.startsWith("Promise ")) {
                int number = Integer.parseInt(section.substring("Promise ".length(), section.indexOf(':')));
                promises[number] = new Part(section.substring(section.indexOf("`: ") + 3));
            }
        }
    }

    /** The terms without what tells of the document itself and of headings. */
    private static String asking(String text) {
        int headings = text.indexOf("Ahead of the calls");
        String all = headings < 0 ? text : text.substring(0, headings);
        return all.replace("Words in capitals are told where they come first.", " ");
    }

    private static String plain(String text) {
        return text.replace("```text", " ").replace("```", " ").replaceAll("======== \\d", " ").replaceAll("\\s+", " ");
    }

    /** Whether a sentence stands in the text of a promise or in the terms. */
    boolean quote(int promise, String sentence) {
        boolean inTerms = terms.quote(sentence);
        return promises[promise].quote(sentence) || inTerms;
    }

    /** All that no test has quoted yet, each behind the part where it stands. */
    List<String> left() {
        List<String> all = new ArrayList<>();
        for (String text : terms.left()) {
            all.add("Terms: " + text);
        }
        for (int i = 1; i <= PROMISES; i++) {
            for (String text : promises[i].left()) {
                all.add("Promise " + i + ": " + text);
            }
        }
        return all;
    }
}
