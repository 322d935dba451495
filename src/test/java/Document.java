import java.io.IOException;
import java.nio.file.Files;
import java.nio.file.Path;
import java.util.Arrays;
import java.util.LinkedHashMap;
import java.util.List;
import java.util.Map;
import java.util.Set;
import java.util.regex.Matcher;
import java.util.regex.Pattern;

/** The document, by its headings; without its signs for code, and each part in one line. */
final class Document {
    private final Map<String, String> parts = new LinkedHashMap<>();

    static Document read(Path file) throws IOException {
        Document document = new Document();
        String[] cut = Files.readString(file).split("(?m)^## ");
        for (String part : Arrays.asList(cut).subList(1, cut.length)) {
            int end = part.indexOf('\n');
            document.parts.put(part.substring(0, end).split(":")[0], plain(part.substring(end)));
        }
        return document;
    }

    /** The signature at the head of a promise is no sentence; that of the class is looked at by FaceTest. */
    private static String plain(String text) {
        return text.strip().replaceFirst("^`[^`]*`: ", "").replace("`", "").replaceAll("\\s+", " ").strip();
    }

    Set<String> headings() {
        return parts.keySet();
    }

    /** The declarations of the class that it writes out, each in one line and without its end. */
    List<String> face() {
        String written = parts.getOrDefault("The public face", "");
        int start = written.indexOf('{') + 1;
        int end = Math.max(start, written.lastIndexOf('}'));
        return Arrays.stream(written.substring(start, end).split(";")).map(String::strip)
                .filter(declaration -> !declaration.isEmpty()).toList();
    }

    /** The names of the calls that the interface groups under this word, in the order of the document. */
    List<String> group(String word) {
        Matcher told = Pattern.compile("Ahead of the calls ([^:]*) the interface says: ---- " + word + "\\.")
                .matcher(parts.getOrDefault("Terms", ""));
        return told.find() ? List.of(told.group(1).split(", ")) : List.of();
    }

    boolean says(String heading, String words) {
        return parts.getOrDefault(heading, "").contains(words);
    }

    /** What is left of a part without these words, and without signs that stand alone. */
    String leftOf(String heading, List<String> words) {
        String text = parts.getOrDefault(heading, "");
        char[] left = text.toCharArray();
        for (String said : words) {
            int at = text.indexOf(said);
            if (at >= 0) {
                Arrays.fill(left, at, at + said.length(), ' ');
            }
        }
        return new String(left).replaceAll("[.,:;()-]", " ").replaceAll("\\s+", " ").strip();
    }
}
