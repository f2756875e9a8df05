import java.io.IOException;
import java.nio.file.Files;
import java.nio.file.Path;
import java.util.ArrayList;
import java.util.List;

/** The public face as the document shows it, a line for each member. */
final class Face {
    private static final Path DOCUMENT = Path.of("../shared/DOC.md");

    private Face() {
    }

    /** The constant, the constructor and the methods, each as "public ...;". */
    static List<String> members() throws IOException {
        List<String> members = new ArrayList<>();
        boolean inside = false;
        for (String line : Files.readAllLines(DOCUMENT)) {
            if (line.startsWith("```")) {
                inside = line.equals("```java");
            } else if (inside && line.startsWith("    public ")) {
                members.add(line.strip());
            }
        }
        return members;
    }

    /** What the promises are about, one behind the other. */
    static List<String> promised() throws IOException {
        List<String> promised = new ArrayList<>();
        for (String line : Files.readAllLines(DOCUMENT)) {
            if (line.matches("`[^`]*\\(.*`")) {
                promised.add(line.substring(1, line.length() - 1));
            }
        }
        return promised;
    }

    /** The methods alone, without "public" and the semicolon. */
    static List<String> signatures() throws IOException {
        List<String> signatures = new ArrayList<>();
        for (String member : members()) {
            if (member.matches("public (int|long|double) \\w+\\(.*\\).*;")) {
                signatures.add(member.substring("public ".length(), member.length() - 1));
            }
        }
        return signatures;
    }
}
