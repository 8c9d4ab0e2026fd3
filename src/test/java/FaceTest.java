import java.io.IOException;
import java.nio.charset.StandardCharsets;
import java.nio.file.Files;
import java.nio.file.Path;
import java.util.ArrayList;
import java.util.List;
import java.util.regex.Matcher;
import java.util.regex.Pattern;

/** The public face, as "The public face" and "Ahead of the calls .." of ../shared/DOC.md write it. */
final class FaceTest {
    private static final Pattern AHEAD = Pattern.compile("Ahead of the calls (.*) the interface says: (---- .*)\\.");

    private FaceTest() {
    }

    private static List<String> document() throws IOException {
        return Files.readAllLines(ReadmeTest.project().resolve("../shared/DOC.md"), StandardCharsets.UTF_8);
    }

    private static List<String> source() throws IOException {
        return Files.readAllLines(Path.of(AllTests.program), StandardCharsets.UTF_8);
    }

    /** The lines of the face, with the parameters by their names, each as the program writes it. */
    static void theFaceIsTheDocuments() throws IOException {
        List<String> due = new ArrayList<>();
        for (String line : document()) {
            if (line.startsWith("    public ")) due.add(line.replace(");", ")").trim());
        }
        List<String> face = new ArrayList<>();
        for (String line : source()) {
            if (line.startsWith("    public ")) face.add(line.replace(") {", ")").trim());
        }
        // its constants, its constructor, and the calls of promises 2 to 50
        Kit.same("how many lines the document's face has", due.size(), 51);
        Kit.same("the face", String.join("\n", face), String.join("\n", due));
    }

    /** Each heading stands behind the calls of the one ahead of it, and ahead of its own, all in the document's order. */
    static void theHeadingsAreAheadOfTheirCalls() throws IOException {
        List<String> due = new ArrayList<>();
        for (String line : document()) {
            Matcher m = AHEAD.matcher(line);
            if (!m.matches()) continue;
            due.add(m.group(2));
            for (String call : m.group(1).replace("`", "").split(", ")) due.add(call);
        }
        List<String> said = new ArrayList<>();
        Pattern call = Pattern.compile("    public (?:int|long) (\\w+)\\(.*");
        for (String line : source()) {
            Matcher m = call.matcher(line);
            if (m.matches()) said.add(m.group(1));
            else if (line.matches("    // ---- \\d .*")) said.add(line.replace("// ", "").trim());
        }
        Kit.same("how many headings and calls the document has", due.size(), 5 + 49);
        Kit.same("the calls under their headings", said.toString(), due.toString());
    }
}
