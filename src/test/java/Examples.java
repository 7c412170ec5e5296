import java.util.ArrayList;
import java.util.List;
import java.util.regex.Matcher;
import java.util.regex.Pattern;

/** The examples of README.md as one program, and the answers that stand behind their calls. */
final class Examples {
    private static final Pattern EXAMPLE = Pattern.compile("(town\\.(\\w+)\\(.*?\\)); *// (.*)");
    private static final Pattern ANSWER = Pattern.compile("(throws \\w+|'.'|true|false|-?\\d+)(: .*)?");
    private static final Pattern NEW_TOWN = Pattern.compile("(\\w+) town = new \\1\\(\\);");

    private static final String BEGIN = String.join("\n",
        "public final class Examples {",
        "    interface Call { String answer(); }",
        "    static String text(int number) { return \"\" + number; }",
        "    static String text(boolean flag) { return \"\" + flag; }",
        "    static String text(char sign) { return \"'\" + sign + \"'\"; }",
        "    static void show(Call call) {",
        "        String answer;",
        "        try {",
        "            answer = call.answer();",
        "        } catch (RuntimeException e) {",
        "            answer = \"throws \" + e.getClass().getSimpleName();",
        "        }",
        "        System.out.println(answer);",
        "    }",
        "    static String textOf(MillbrookBorough town, int cell) {",
        "        String text = \"\";",
        "        try {",
        "            for (int place = 0; place < 8; place++) {",
        "                text += town.sign(cell, place);",
        "            }",
        "        } catch (IndexOutOfBoundsException e) {",
        "            return text;",
        "        }",
        "        return text;",
        "    }",
        "    public static void main(String[] args) {",
        "");
    private static final String END = "    }\n}\n";

    private final List<String> calls = new ArrayList<>();
    private final List<String> names = new ArrayList<>();
    private final List<String> answers = new ArrayList<>();
    private final StringBuilder code = new StringBuilder(BEGIN);

    void add(Readme.Block block) {
        for (String line : block.lines) {
            Matcher example = EXAMPLE.matcher(line);
            Matcher newTown = NEW_TOWN.matcher(line);
            if (example.matches()) {
                addCall(example.group(1), example.group(2), example.group(3));
            } else if (newTown.matches()) {
                names.add(newTown.group(1));
                code.append("        ").append(line).append('\n');
            } else {
                Check.fail("an example in " + block.heading + " tells no answer: " + line);
            }
        }
    }

    private void addCall(String call, String name, String comment) {
        Matcher answer = ANSWER.matcher(comment);
        if (!answer.matches()) {
            Check.fail("behind " + call + " stands no answer: " + comment);
            return;
        }
        names.add(name);
        show(call, "text(" + call + ")", answer.group(1));
    }

    private void show(String call, String answered, String answer) {
        calls.add(call);
        answers.add(answer);
        code.append("        show(() -> ").append(answered).append(");\n");
    }

    /** A drawing shows the texts of the cells of the upper rows, from the left on. */
    void addDrawing(Readme.Block block) {
        for (int row = 0; row < block.lines.size(); row++) {
            String[] texts = block.lines.get(row).split(" +");
            for (int column = 0; column < texts.length; column++) {
                int cell = 8 * row + column;
                show("drawing of " + cell, "textOf(town, " + cell + ")", texts[column]);
            }
        }
    }

    boolean haveCall(String name) {
        return names.contains(name);
    }

    /** Each call prints a line. */
    String program() {
        return code + END;
    }

    void compare(String printed) {
        String[] lines = printed.split("\n");
        Check.due("lines of the examples", lines.length, calls.size());
        for (int index = 0; index < Math.min(lines.length, calls.size()); index++) {
            Check.due("the example " + calls.get(index), lines[index], answers.get(index));
        }
        if (lines.length != calls.size()) {
            Check.fail(printed);
        }
    }
}
