import java.io.IOException;
import java.nio.file.Files;
import java.nio.file.Path;
import java.util.Arrays;
import java.util.LinkedHashMap;
import java.util.Map;

/** The document, section by section: each test quotes the words that it holds, and in the end none may be left over. */
final class Sheet extends Tally {
    private static final Path DOCUMENT = Path.of("../shared/DOC.md");

    private final Map<String, String> words = new LinkedHashMap<>();
    private final Map<String, boolean[]> quoted = new LinkedHashMap<>();
    private String section = "";

    Sheet() throws IOException {
        String all = Files.readString(DOCUMENT).replaceAll("(?m)^```.*$", "");
        for (String part : all.split("(?m)^## ")) {
            String heading = part.lines().findFirst().orElse("");
            keep(heading, part.substring(heading.length()));
        }
    }

    /** Of a promise without the form of its call; the Terms in the parts that ==== 2 to ==== 5 begin. */
    private void keep(String heading, String body) {
        String[] parts = body.strip().replaceAll("\\s+", " ").replaceFirst("^`[^`]*`: ", "").split("==== ");
        for (String part : parts) {
            boolean isNumbered = part.matches("\\d\\..*");
            String name = isNumbered && heading.equals("Terms") ? heading + " " + part.charAt(0) : heading;
            String text = isNumbered ? part.substring(2) : part;
            words.merge(name, text, String::concat);
            quoted.put(name, new boolean[words.get(name).length()]);
        }
    }

    /** The quotes from here on stand under this heading. */
    void section(String heading) {
        section = heading;
        if (!words.containsKey(heading)) {
            fault("the document has no " + heading);
        }
    }

    /** What is asked from here on is read off these words. */
    void says(String quote) {
        about(section + ": " + quote);
        String text = words.getOrDefault(section, "");
        boolean[] taken = quoted.getOrDefault(section, new boolean[0]);
        int at = text.indexOf(quote);
        while (at >= 0 && taken[at]) {
            at = text.indexOf(quote, at + 1);
        }
        if (at < 0) {
            fault("these words do not stand there");
            return;
        }
        Arrays.fill(taken, at, at + quote.length(), true);
    }

    House house() {
        return new House(this);
    }

    /** Every word of the sections whose headings begin so has been quoted. */
    void allSaid(String beginning) {
        for (String name : words.keySet()) {
            if (name.startsWith(beginning)) {
                about(name);
                String text = words.get(name);
                boolean[] taken = quoted.get(name);
                StringBuilder left = new StringBuilder();
                for (int i = 0; i < taken.length; i++) {
                    left.append(taken[i] ? '|' : text.charAt(i));
                }
                if (left.toString().matches(".*[A-Za-z0-9].*")) {
                    fault("no test quotes: " + left.toString().replaceAll("\\|+", " | "));
                }
            }
        }
    }
}
