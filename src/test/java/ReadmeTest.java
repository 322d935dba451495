import java.io.ByteArrayOutputStream;
import java.io.IOException;
import java.io.PrintStream;
import java.nio.charset.StandardCharsets;
import java.nio.file.Files;
import java.nio.file.Path;
import java.util.ArrayList;
import java.util.List;
import java.util.regex.Matcher;
import java.util.regex.Pattern;

/** README.md tells each call in its group, with what it throws, and its example prints what is written behind it. */
public final class ReadmeTest {
    private static final List<String> GROUPS =
            List.of("layers", "samples", "what there is", "what could be", "what would be");

    private final Checks checks = new Checks("ReadmeTest");
    private final String readme;
    private final Document document;

    private ReadmeTest(String readme, Document document) {
        this.readme = readme;
        this.document = document;
    }

    public static void main(String[] args) throws IOException {
        ReadmeTest test = new ReadmeTest(Files.readString(Path.of("README.md")),
                Document.read(Path.of("../shared/DOC.md")));
        test.lookAtGroups();
        test.lookAtExample(Files.readString(Path.of("src/test/java/Example.java")));
        test.checks.finish();
    }

    /** What stands below a heading, up to the next one. */
    private String below(String heading) {
        Matcher part = Pattern.compile("(?ms)^### " + heading + "\n(.*?)(?=^#|\\z)").matcher(readme);
        return part.find() ? part.group(1).replaceAll("\\s+", " ") : "";
    }

    private void lookAtGroups() {
        checks.due("the constructor is told of", true, below("The constructor").contains("- `GrainSilo()`: "));
        int calls = 0;
        for (String group : GROUPS) {
            List<String> told = new ArrayList<>();
            Matcher head = Pattern.compile("- `\\w+ (\\w+)\\([^)]*\\)`: ").matcher(below(group));
            while (head.find()) {
                told.add(head.group(1));
            }
            checks.due("the calls told of under " + group, document.group(group), told);
            for (String name : told) {
                lookAtCall(group, name);
                calls++;
            }
        }
        checks.due("the calls told of", 36, calls);
    }

    private void lookAtCall(String group, String name) {
        String declared = document.face().stream().filter(face -> face.contains(" " + name + "(")).findFirst()
                .orElse("public " + name + " is not declared");
        String[] cut = declared.replaceFirst("^public ", "").split(" throws ");
        String told = below(group) + "- `";
        int start = told.indexOf("- `" + cut[0] + "`: ");
        checks.due(cut[0] + " is told of", true, start >= 0);
        if (start >= 0) {
            String call = told.substring(start, told.indexOf("- `", start + 1));
            checks.due("what " + name + " throws", cut.length > 1 ? cut[1] : "", exceptionsIn(call));
        }
    }

    private static String exceptionsIn(String told) {
        List<String> names = new ArrayList<>();
        Matcher name = Pattern.compile("`(\\w+Exception)`").matcher(told);
        while (name.find()) {
            names.add(name.group(1));
        }
        return String.join(", ", names);
    }

    private void lookAtExample(String example) {
        checks.due("README.md shows the example", true, readme.contains("```java\n" + example + "```"));
        List<String> due = new ArrayList<>();
        Matcher line = Pattern.compile("System\\.out\\.println\\(.*\\); *// ([^:\n]*):").matcher(example);
        while (line.find()) {
            due.add(line.group(1));
        }
        checks.due("the lines that tell what they print", example.split("println").length - 1, due.size());
        checks.due("what the example prints", due, printedByExample());
    }

    private static List<String> printedByExample() {
        PrintStream before = System.out;
        ByteArrayOutputStream printed = new ByteArrayOutputStream();
        System.setOut(new PrintStream(printed, true, StandardCharsets.UTF_8));
        try {
            Example.main(new String[0]);
        } finally {
            System.setOut(before);
        }
        return printed.toString(StandardCharsets.UTF_8).lines().toList();
    }
}
