import java.io.IOException;
import java.nio.charset.StandardCharsets;
import java.nio.file.Files;
import java.nio.file.Path;
import java.util.Arrays;
import java.util.Map;
import java.util.TreeMap;
import java.util.regex.Matcher;
import java.util.regex.Pattern;

/** The sentences of ../shared/DOC.md, and which of them a test has named. */
final class Document {
    private static final Pattern HEADING = Pattern.compile("(?m)^## (.*)$");

    private final Map<String, String> sections = new TreeMap<>();
    private final Map<String, boolean[]> named = new TreeMap<>();

    Document(String path) throws IOException {
        String text = new String(Files.readAllBytes(Path.of(path)), StandardCharsets.UTF_8);
        Matcher heading = HEADING.matcher(text);
        boolean more = heading.find();
        while (more) {
            String name = heading.group(1);
            int from = heading.end();
            more = heading.find();
            add(name, text.substring(from, more ? heading.start() : text.length()));
        }
    }

    private void add(String heading, String body) {
        String name = heading.replaceFirst("^Promise (\\d+):.*$", "$1");
        String text = body.replaceAll("```[a-z]*", " ").replaceAll("\\s+", " ").trim();
        if (name.equals("Terms")) {
            // What the interface says ahead of the calls is no promise.
            text = text.substring(0, text.indexOf("Ahead of the calls"));
        }
        if (!name.equals(heading)) {
            text = text.replaceFirst("^`[^`]*`: ", "");
        }
        sections.put(name, text);
        named.put(name, new boolean[text.length()]);
    }

    /** Whether the sentence stands there; it is named then. */
    boolean names(String section, String sentence) {
        String text = sections.getOrDefault(section, "");
        boolean stands = false;
        for (int at = text.indexOf(sentence); at >= 0; at = text.indexOf(sentence, at + 1)) {
            Arrays.fill(named.get(section), at, at + sentence.length(), true);
            stands = true;
        }
        return stands;
    }

    /** The words of a section that no test has named, empty if there are none. */
    String unnamed(String section) {
        StringBuilder words = new StringBuilder();
        String text = sections.getOrDefault(section, "");
        for (int i = 0; i < text.length(); i++) {
            words.append(named.get(section)[i] ? ' ' : text.charAt(i));
        }
        String left = words.toString().replaceAll("\\s+", " ").trim();
        return left.chars().anyMatch(Character::isLetter) ? left : "";
    }
}
