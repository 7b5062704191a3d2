import java.io.IOException;
import java.nio.charset.StandardCharsets;
import java.nio.file.Files;
import java.nio.file.Path;
import java.util.ArrayList;
import java.util.Arrays;
import java.util.List;

/** The words of ../shared/DOC.md, and which of them a test has quoted. Runs in the project's folder. */
final class Document {
    static final int PROMISES = 29;

    /** Place 0 has "Terms", place PROMISES + 1 "What it is", the places between the promises. */
    private final String[] words = new String[PROMISES + 2];
    private final boolean[][] quoted = new boolean[PROMISES + 2][];
    private final boolean isHere;

    /** Where the document is not at hand the answers are tested all the same, the quotes are not. */
    Document() throws IOException {
        Path path = Path.of("../shared/DOC.md");
        isHere = Files.isReadable(path);
        if (!isHere) System.out.println("no " + path + ": the quotes are not compared with it");
        String all = isHere ? Files.readString(path, StandardCharsets.UTF_8) : "";
        words[0] = sectionOf(all, "Terms");
        words[PROMISES + 1] = sectionOf(all, "What it is");
        for (int p = 1; p <= PROMISES; p++) words[p] = sectionOf(all, "Promise " + p + ":").replaceFirst("^.*?`[^`]*`: ", "");
        for (int s = 0; s < words.length; s++) quoted[s] = new boolean[words[s].length()];
    }

    /** Without the marks of the page, with one blank between words. */
    private static String sectionOf(String all, String title) {
        int from = all.indexOf("\n## " + title);
        if (from < 0) return "";
        from += ("\n## " + title).length();
        int to = all.indexOf("\n## ", from);
        String section = all.substring(from, to < 0 ? all.length() : to);
        return section.replaceAll("```(text)?", " ").replaceAll("==== \\d", " ").replaceAll("\\s+", " ").trim();
    }

    /** Whether the words stand at the promise, or in what goes ahead of all promises. */
    boolean has(int promise, String sentence) {
        boolean found = !isHere;
        for (int s : new int[] {promise, 0, PROMISES + 1}) {
            int at = words[s].indexOf(sentence);
            if (at < 0) continue;
            Arrays.fill(quoted[s], at, at + sentence.length(), true);
            found = true;
        }
        return found;
    }

    /** What no test has quoted, of the promises and of the terms. */
    List<String> unquoted() {
        List<String> left = new ArrayList<>();
        for (int s = 0; s <= PROMISES; s++) {
            StringBuilder gap = new StringBuilder();
            for (int i = 0; i <= words[s].length(); i++) {
                if (i < words[s].length() && !quoted[s][i]) {
                    gap.append(words[s].charAt(i));
                } else {
                    if (gap.chars().anyMatch(Character::isLetterOrDigit)) left.add((s == 0 ? "terms: " : "promise " + s + ": ") + gap);
                    gap.setLength(0);
                }
            }
        }
        return left;
    }
}
