import java.io.IOException;
import java.nio.file.Files;
import java.nio.file.Path;
import java.util.ArrayList;
import java.util.LinkedHashMap;
import java.util.List;
import java.util.Map;

/** The sentences of the document that promise something, by the section that they stand in. */
final class Doc {
    /** .ci/run starts each test in the project's folder. */
    private static final Path PLACE = Path.of("../shared/DOC.md");

    private Doc() {
    }

    static Map<String, List<String>> sentences() {
        Map<String, List<String>> all = new LinkedHashMap<>();
        for (String section : text().split("(?m)^## ")) {
            int end = section.indexOf('\n');
            String heading = end < 0 ? section : section.substring(0, end).trim();
            boolean isPromise = heading.startsWith("Promise ");
            if (isPromise || heading.equals("Terms") || heading.equals("What it is")) {
                all.put(heading, sentencesOf(section.substring(end), isPromise));
            }
        }
        return all;
    }

    private static String text() {
        try {
            return Files.readString(PLACE);
        } catch (IOException e) {
            throw new IllegalStateException(PLACE + " can not be read", e);
        }
    }

    private static List<String> sentencesOf(String section, boolean isPromise) {
        List<String> found = new ArrayList<>();
        for (String paragraph : section.trim().split("\n\\s*\n")) {
            if (isPromise && paragraph.startsWith("- ")) {
                addParameters(found, paragraph);
            } else if (isPromise) {
                // What a call does stands behind its signature.
                found.add(inOneLine(paragraph).replaceFirst("^`[^`]*`: ", ""));
            } else {
                addSentences(found, inOneLine(paragraph));
            }
        }
        return found;
    }

    /** A parameter's line promises something if it tells a range, or the values that there are. */
    private static void addParameters(List<String> found, String paragraph) {
        for (String line : paragraph.split("\n")) {
            if (line.matches(".*[0-9'].*")) {
                found.add(inOneLine(line));
            }
        }
    }

    private static void addSentences(List<String> found, String paragraph) {
        for (String sentence : paragraph.split("(?<=\\.) ")) {
            boolean isTitle = sentence.matches("\\w+( and \\w+)?\\.");
            if (!isTitle && !sentence.startsWith("Ahead of the calls ")) {
                found.add(sentence);
            }
        }
    }

    private static String inOneLine(String text) {
        return text.trim().replaceAll("\\s+", " ");
    }
}
