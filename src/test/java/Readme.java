import java.io.IOException;
import java.nio.charset.StandardCharsets;
import java.nio.file.Files;
import java.nio.file.Path;
import java.util.ArrayList;
import java.util.LinkedHashMap;
import java.util.List;
import java.util.Map;

/** README.md by its headings: the lines of words, and the blocks of code with their language. */
final class Readme {
    private static final Path PLACE = Path.of("README.md");

    private final Map<String, List<String>> words = new LinkedHashMap<>();
    private final List<Block> blocks = new ArrayList<>();

    /** What stands between two lines of ```; the language is the word behind the first. */
    static final class Block {
        final String heading;
        final String language;
        final List<String> lines = new ArrayList<>();

        Block(String heading, String language) {
            this.heading = heading;
            this.language = language;
        }

        boolean isIn(String wanted) {
            return language.equals(wanted);
        }

        String text() {
            return String.join("\n", lines);
        }
    }

    Readme() {
        try {
            read(Files.readAllLines(PLACE, StandardCharsets.UTF_8));
        } catch (IOException e) {
            throw new IllegalStateException("the page can't be read: " + PLACE, e);
        }
    }

    private void read(List<String> lines) {
        String heading = "";
        Block open = null;
        for (String line : lines) {
            if (line.startsWith("```")) {
                open = open == null ? new Block(heading, line.substring(3)) : null;
                if (open != null) {
                    blocks.add(open);
                }
            } else if (open != null) {
                open.lines.add(line);
            } else if (line.startsWith("#")) {
                heading = line.replaceFirst("^#+ ", "");
            } else if (!line.isEmpty()) {
                words.computeIfAbsent(heading, key -> new ArrayList<>()).add(line);
            }
        }
    }

    /** The lines below a heading that are neither empty nor code. */
    List<String> linesOf(String heading) {
        return words.getOrDefault(heading, List.of());
    }

    /** All words as one text, so that it does not matter where a line is broken. */
    String allWords() {
        List<String> lines = new ArrayList<>();
        words.values().forEach(lines::addAll);
        return String.join(" ", lines);
    }

    List<Block> blocks() {
        return blocks;
    }

    /** Blocks that hold a whole program are run alone. */
    static boolean isProgram(Block block) {
        return block.isIn("java") && block.text().contains("public static void main");
    }

    static boolean isExample(Block block) {
        return block.isIn("java") && !isProgram(block);
    }
}
