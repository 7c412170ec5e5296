import java.io.IOException;
import java.nio.file.DirectoryStream;
import java.nio.file.Files;
import java.nio.file.Path;
import java.util.ArrayList;
import java.util.List;
import java.util.regex.Matcher;
import java.util.regex.Pattern;

/** What README.md shows compiles, runs and answers as it says, and its words are those of the document. */
public final class ReadmeTest {
    private static final Pattern PROGRAM = Pattern.compile("public final class (\\w+) ");
    private static final Pattern KIND = Pattern.compile("\\| (\\d) \\| (.+?) \\| (\\d*) ?\\| (\\d*) ?\\| (.+) \\|");
    private static final String ALL_TESTS = ".ci/run";

    private static final Readme PAGE = new Readme();
    private static final Document DOCUMENT = new Document();

    public static void main(String[] args) throws IOException, InterruptedException {
        if (DOCUMENT.isThere()) {
            callsInTheDocumentsWords();
            allElseInTheDocumentsWords();
        }
        tableOfKinds();
        namesOfTests();
        Workplace place = new Workplace();
        try {
            examples(place);
            programsAndCommands(place);
        } finally {
            place.clear();
        }
        Check.end();
    }

    /** Below the name of a call stand its form and the sentences of its promise, and no others. */
    private static void callsInTheDocumentsWords() {
        int promises = 0;
        for (String promise : DOCUMENT.promises()) {
            promises++;
            String form = DOCUMENT.formOf(promise);
            String section = sectionOf(form);
            List<String> want = new ArrayList<>(List.of("`" + form + "`"));
            for (String sentence : DOCUMENT.sentencesOf(promise)) {
                if (!want.contains(sentence)) {
                    want.add(sentence);
                }
            }
            Check.due(promise + " in " + section, sentencesBelow(section).toString(), want.toString());
        }
        Check.due("promises", promises, 21);
    }

    private static String sectionOf(String form) {
        String name = nameOf(form);
        return name.equals("MillbrookBorough") ? "A new object" : name;
    }

    private static String nameOf(String form) {
        return form.replaceFirst("\\(.*", "").replaceFirst(".* ", "");
    }

    private static List<String> sentencesBelow(String section) {
        List<String> sentences = new ArrayList<>();
        for (String line : PAGE.linesOf(section)) {
            sentences.addAll(List.of(Document.sentencesIn(line)));
        }
        return sentences;
    }

    private static void allElseInTheDocumentsWords() {
        String words = PAGE.allWords();
        for (String heading : new String[] {"What it is", "Terms", "Not promised"}) {
            for (String sentence : DOCUMENT.sentencesOf(heading)) {
                boolean isOfTheFace = sentence.startsWith("Ahead of the calls");
                Check.due("\"" + sentence + "\" is told", isOfTheFace || words.contains(sentence), true);
            }
        }
    }

    private static void tableOfKinds() {
        int kinds = 0;
        for (String line : PAGE.linesOf("The town")) {
            Matcher row = KIND.matcher(line);
            if (row.matches()) {
                Check.due("kind", Integer.parseInt(row.group(1)), kinds);
                rowOfKind(kinds, numberOf(row.group(3)), numberOf(row.group(4)), row.group(5));
                kinds++;
            }
        }
        Check.due("kinds in the table", kinds, 7);
    }

    private static int numberOf(String text) {
        return text.isEmpty() ? 0 : Integer.parseInt(text);
    }

    private static void rowOfKind(int kind, int cost, int upkeep, String text) {
        MillbrookBorough town = new MillbrookBorough();
        if (kind > 0) {
            Check.due("cost of " + kind, 1000 - town.build(0, kind), cost);
        }
        Check.due("upkeep of " + kind, -town.pass(1), upkeep);
        Check.due("text of " + kind, text.replace("`", "").replace(" and the level", "0"), textOf(town, 0));
    }

    private static String textOf(MillbrookBorough town, int cell) {
        StringBuilder text = new StringBuilder();
        try {
            for (int place = 0; place < 8; place++) {
                text.append(town.sign(cell, place));
            }
        } catch (IndexOutOfBoundsException e) {
            return text.toString();
        }
        return text.append("..").toString();
    }

    private static void namesOfTests() throws IOException {
        String words = PAGE.allWords();
        try (DirectoryStream<Path> files = Files.newDirectoryStream(Path.of("src", "test", "java"), "*Test.java")) {
            for (Path file : files) {
                String name = file.getFileName().toString().replace(".java", "");
                Check.due(name + " is named", words.contains("`" + name + "`"), true);
            }
        }
    }

    /** The examples are one run of calls, so one program makes them all, and prints an answer for each. */
    private static void examples(Workplace place) throws IOException, InterruptedException {
        Examples examples = new Examples();
        for (Readme.Block block : PAGE.blocks()) {
            if (Readme.isExample(block)) {
                examples.add(block);
            } else if (block.isIn("text") && block.heading.equals("Cells")) {
                examples.addDrawing(block);
            }
        }
        for (String promise : DOCUMENT.promises()) {
            String name = nameOf(DOCUMENT.formOf(promise));
            Check.due("an example of " + name, examples.haveCall(name), true);
        }
        place.write("Examples.java", examples.program());
        examples.compare(place.run("javac -d out src/main/java/MillbrookBorough.java Examples.java\njava -cp out Examples"));
    }

    /** Behind commands stands what they print; that of all tests is not run here, as this test is one of them. */
    private static void programsAndCommands(Workplace place) throws IOException, InterruptedException {
        int runs = 0;
        String printed = "";
        boolean isRun = false;
        for (Readme.Block block : PAGE.blocks()) {
            if (Readme.isProgram(block)) {
                Matcher name = PROGRAM.matcher(block.text());
                Check.due("a program with a name", name.find(), true);
                place.write(name.group(1) + ".java", block.text());
            } else if (block.isIn("sh") && !block.text().equals(ALL_TESTS)) {
                printed = place.run(block.text());
                isRun = true;
            } else if (block.isIn("text") && isRun) {
                Check.due("what is printed by the commands in " + block.heading, printed, block.text());
                isRun = false;
                runs++;
            }
        }
        Check.due("commands that were run", runs, 3);
    }
}
