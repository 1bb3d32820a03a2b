import java.nio.file.Files;
import java.nio.file.Path;
import java.util.Map;
import java.util.TreeMap;

/** The document's parts and which of their words a test has quoted. Part 0 is the terms, part n promise n. */
final class Document {
    static final int TERMS = 0;
    private static final Path PLACE = Path.of("../shared/DOC.md");

    private final Map<Integer, String> parts = new TreeMap<>();
    private final Map<Integer, boolean[]> quoted = new TreeMap<>();

    /** Without the document no quotation can be looked up, and none is missed. */
    static Document read() {
        Document document = new Document();
        try {
            document.cut(Files.readString(PLACE));
        } catch (java.io.IOException e) {
            System.out.println("the document is not here; quotations are not looked up");
        }
        return document;
    }

    private void cut(String all) {
        for (String section : all.split("\n## ")) {
            String title = section.substring(0, section.indexOf('\n'));
            String body = section.substring(title.length());
            if (title.equals("Terms")) {
                add(TERMS, body.split("\nAhead of the calls")[0]);
            } else if (title.startsWith("Promise ")) {
                // the face of the call is looked at by LanguageTest
                add(Integer.parseInt(title.substring(8, title.indexOf(':'))), body.replaceFirst("`[^`]*`:", ""));
            }
        }
    }

    private void add(int part, String body) {
        String text = body.replace("```text", " ").replace("```", " ").replaceAll("==== I*V?\\.?", " ");
        text = text.replaceAll("\\s+", " ").trim();
        parts.put(part, text);
        quoted.put(part, new boolean[text.length()]);
    }

    /** Whether the words stand in that part; they count as quoted then. */
    boolean quote(int part, String words) {
        if (parts.isEmpty()) {
            return true;
        }
        String text = parts.getOrDefault(part, "");
        int at = text.indexOf(words);
        boolean stands = at >= 0;
        while (at >= 0) {
            java.util.Arrays.fill(quoted.get(part), at, at + words.length(), true);
            at = text.indexOf(words, at + 1);
        }
        return stands;
    }

    /** Words that no test has quoted, part by part; an empty text if there are none. */
    String unquoted() {
        StringBuilder all = new StringBuilder();
        for (int part : parts.keySet()) {
            String text = parts.get(part);
            StringBuilder left = new StringBuilder();
            for (int i = 0; i < text.length(); i++) {
                left.append(quoted.get(part)[i] ? '\u0001' : text.charAt(i));
            }
            String words = left.toString().replaceAll("[^A-Za-z0-9-]*\u0001[^A-Za-z0-9-]*", " .. ");
            if (words.matches("(?s).*[A-Za-z0-9-].*")) {
                all.append("part ").append(part).append(": ").append(words.replaceAll("[ .]{2,}", " .. ")).append('\n');
            }
        }
        return all.toString();
    }
}
