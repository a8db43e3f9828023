import java.io.IOException;
import java.nio.file.Files;
import java.nio.file.Path;
import java.util.Arrays;
import java.util.LinkedHashMap;
import java.util.Map;

/** The sections of ../shared/DOC.md, and which words of them some test quotes. */
final class Document {
    private final Map<String, String> texts = new LinkedHashMap<>();
    private final Map<String, boolean[]> quoted = new LinkedHashMap<>();

    Document() throws IOException {
        Map<String, StringBuilder> read = new LinkedHashMap<>();
        StringBuilder section = new StringBuilder();
        for (String line : Files.readString(Path.of("../shared/DOC.md")).split("\n")) {
            String name = heading(line);
            if (!name.isEmpty()) {
                section = new StringBuilder();
                read.put(name, section);
            } else if (isSaying(line)) {
                section.append(line).append(' ');
            }
        }
        for (String name : read.keySet()) {
            String text = plain(read.get(name).toString());
            texts.put(name, text);
            quoted.put(name, new boolean[text.length()]);
        }
    }

    /** Signatures say nothing, and one of the group titles alone does. */
    private static boolean isSaying(String line) {
        return !line.startsWith("`") && (!line.startsWith("----") || line.contains(";"));
    }

    /** A promise's section bears its number alone; the last two parts of the description have no title line. */
    private static String heading(String line) {
        if (line.startsWith("## ")) {
            return line.substring(3).split(":")[0];
        }
        if (line.startsWith("Examples:")) {
            return "Examples";
        }
        if (line.equals("The constants:")) {
            return "The constants";
        }
        return line.matches("[A-Z][A-Z ]+") ? line : "";
    }

    static String plain(String text) {
        return text.trim().replaceAll("\\s+", " ");
    }

    /** Tells whether the section has these words. */
    boolean quote(String section, String words) {
        String text = texts.getOrDefault(section, "");
        boolean found = false;
        for (int at = text.indexOf(words); at >= 0; at = text.indexOf(words, at + 1)) {
            Arrays.fill(quoted.get(section), at, at + words.length(), true);
            found = true;
        }
        return found;
    }

    /** The words of a section that nothing quotes. */
    String unquoted(String section) {
        String text = texts.get(section);
        StringBuilder left = new StringBuilder();
        for (int i = 0; i < text.length(); i++) {
            left.append(quoted.get(section)[i] ? ' ' : text.charAt(i));
        }
        return plain(left.toString().replaceAll("(?<= )[-.,;:()]+(?= |$)|^[-.,;:()]+(?= |$)", " "));
    }

    Iterable<String> sections() {
        return texts.keySet();
    }
}
