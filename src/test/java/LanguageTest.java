import java.io.IOException;
import java.nio.file.Files;
import java.nio.file.Path;

/** What of ../shared/LANGUAGE.md can be read off the source; .ci/run starts it in the project's folder. */
public final class LanguageTest {
    private static final String[] RULED_OUT = {
        "package ", "import ", "->", "::", "finally", "synchronized", "assert", "static {", "catch", "Exact",
        "hashCode", "toString", "getClass", "getMessage", "System.", "Object", "Thread", "protected", "@",
        "NaN", "Double", "Float", "%d", "\" +", "+ \"",
    };
    private static final int LONGEST_METHOD = 60;
    private static final int MOST_PARAMETERS = 7;
    private static final int MOST_CLASSES = 12;

    public static void main(String[] args) throws IOException {
        Due due = new Due();
        String source = Files.readString(Path.of("src/main/java/Harbourmint.java"));
        due.is("signs above 127", source.chars().anyMatch(c -> c > 127), false);
        String code = source.replaceAll("(?s)/\\*.*?\\*/", "").replaceAll("//[^\n]*", "");
        for (String word : RULED_OUT) {
            due.is("the code holds '" + word + "'", code.contains(word), false);
        }
        due.is("classes are few", code.split("\\bclass ").length - 1 <= MOST_CLASSES, true);
        checkStatics(due, code);
        checkMethods(due, code);
        due.end();
    }

    private static void checkStatics(Due due, String code) {
        for (String line : code.split("\n")) {
            boolean isStatic = line.contains(" static ");
            due.is(line + ": static and not final", isStatic && !line.contains(" static final "), false);
        }
    }

    /** A method opens a block outside of all others but those of classes, and ends where it closes. */
    private static void checkMethods(Due due, String code) {
        int depth = 0;
        int classDepth = 0;
        int length = 0;
        int found = 0;
        for (String line : code.split("\n")) {
            boolean opens = line.endsWith("{");
            if (opens && line.contains("class ")) {
                classDepth++;
            }
            depth += opens ? 1 : 0;
            depth -= line.trim().startsWith("}") ? 1 : 0;
            classDepth = Math.min(depth, classDepth);
            found += opens && length == 0 && depth > classDepth ? 1 : 0;
            length = depth > classDepth ? length + 1 : 0;
            due.is(line + " stands in a long method", length > LONGEST_METHOD, false);
        }
        due.is("methods are found", found > 80, true);
        for (String parameters : code.split("\\(")) {
            int end = parameters.indexOf(')');
            String inner = end < 0 ? parameters : parameters.substring(0, end);
            due.is("(" + inner + ") is long", inner.split(",").length > MOST_PARAMETERS, false);
        }
    }
}
