import java.io.IOException;
import java.nio.file.Files;
import java.nio.file.Path;
import java.util.ArrayDeque;
import java.util.Deque;
import java.util.regex.Matcher;
import java.util.regex.Pattern;

/** What of ../shared/LANGUAGE.md can be read off the source; .ci/run starts it in the project's folder. */
public final class LanguageTest {
    /** What the rules name as left out, told as patterns; what they allow on conditions is not here. */
    private static final String[] RULED_OUT = {
        "(?m)^\\s*package\\b", "(?m)^(?!\\s*(case|default)\\b).*->", "::", "\\bfinally\\b", "\\bsynchronized\\b",
        "\\bassert\\b", "\\bstatic\\s*\\{", "\\w+Exact\\b", "\\bint\\s+hashCode\\b", "\\bString\\s+toString\\b",
        "\\bboolean\\s+equals\\b", "\\bgetClass\\b", "\\bgetMessage\\b", "\\bSystem\\.(?!arraycopy\\b)", "\\bObject\\b",
        "\\bThread\\b", "\\bprotected\\b", "\\bNaN\\b", "\\bDouble\\b", "\\bFloat\\b", "\\bformat\\b", "\" \\+", "\\+ \"",
        // A static field that is not final.
        "\\bstatic\\s+(?!final\\b)[\\w<>\\[\\]]+\\s+\\w+\\s*[=;]",
    };
    private static final int LONGEST_METHOD = 60;
    private static final int MOST_PARAMETERS = 7;
    private static final int MOST_CLASSES = 12;
    private static final Pattern TYPE = Pattern.compile("\\b(class|record|enum|interface)\\s+\\w");

    private static final Due due = new Due();

    public static void main(String[] args) throws IOException {
        String source = Files.readString(Path.of("src/main/java/Harbourmint.java"));
        due.is("signs above 127", source.chars().anyMatch(c -> c > 127), false);
        String code = source.replaceAll("(?s)/\\*.*?\\*/", "").replaceAll("//[^\n]*", "");
        for (String ruledOut : RULED_OUT) {
            due.is("the code holds " + ruledOut, Pattern.compile(ruledOut).matcher(code).find(), false);
        }
        String bare = code.replaceAll("'(\\\\.|[^'])'", "' '").replaceAll("\"(\\\\.|[^\"\\\\])*\"", "\"\"");
        checkBlocks(bare);
        checkParameters(bare);
        due.end();
    }

    /** A block that stands right inside a class is a method, or the values of an array. */
    private static void checkBlocks(String code) {
        Deque<Integer> begins = new ArrayDeque<>();
        Deque<Boolean> types = new ArrayDeque<>();
        int classes = 0;
        int methods = 0;
        int headerAt = 0;
        for (int n = 0; n < code.length(); n++) {
            char sign = code.charAt(n);
            if (sign == '{') {
                boolean isType = TYPE.matcher(code.substring(headerAt, n)).find();
                classes += isType ? 1 : 0;
                begins.push(n);
                types.push(isType);
            } else if (sign == '}' && !begins.isEmpty()) {
                int begin = begins.pop();
                boolean isMethod = !types.pop() && !types.isEmpty() && types.peek();
                methods += isMethod ? 1 : 0;
                long lines = code.substring(begin, n).chars().filter(c -> c == '\n').count();
                due.is("a method of " + lines + " lines is long", isMethod && lines > LONGEST_METHOD, false);
            }
            headerAt = sign == '{' || sign == '}' || sign == ';' ? n + 1 : headerAt;
        }
        due.is("each block ends", begins.isEmpty(), true);
        due.is("methods are found", methods > 31, true);
        due.is("classes are few: " + classes, classes >= 1 && classes <= MOST_CLASSES, true);
    }

    private static void checkParameters(String code) {
        Matcher lists = Pattern.compile("\\(([^()]*)\\)").matcher(code);
        while (lists.find()) {
            due.is("(" + lists.group(1) + ") is long", lists.group(1).split(",").length > MOST_PARAMETERS, false);
        }
    }
}
