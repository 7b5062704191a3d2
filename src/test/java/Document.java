import java.io.IOException;
import java.nio.charset.StandardCharsets;
import java.nio.file.Files;
import java.nio.file.Path;
import java.util.ArrayList;
import java.util.Arrays;
import java.util.List;

/** The words of ../shared/DOC.md, and which of them a test has quoted. Runs in the project's folder. */
final class Document {
    static final int PROMISES = 29;

    /** Place 0 has "Terms", the places behind it the promises, then these. */
    private static final int WHAT_IT_IS = PROMISES + 1, NOT_PROMISED = PROMISES + 2, SECTIONS = PROMISES + 3;
    private final String[] words = new String[SECTIONS];
    private final boolean[][] quoted = new boolean[SECTIONS][];
    private final String all;
    private final boolean isHere;

    /** Where the document is not at hand the answers are tested all the same, the quotes are not. */
    Document() throws IOException {
        Path path = Path.of("../shared/DOC.md");
        isHere = Files.isReadable(path);
        if (!isHere) System.out.println("no " + path + ": the quotes are not compared with it");
        all = isHere ? Files.readString(path, StandardCharsets.UTF_8) : "";
        words[0] = sectionOf(all, "Terms");
        words[WHAT_IT_IS] = sectionOf(all, "What it is");
        words[NOT_PROMISED] = sectionOf(all, "Not promised");
        for (int p = 1; p <= PROMISES; p++) words[p] = sectionOf(all, "Promise " + p + ":").replaceFirst("^.*?`[^`]*`: ", "");
        for (int s = 0; s < words.length; s++) quoted[s] = new boolean[words[s].length()];
    }

    /** Without the marks of the page, with one blank between words. */
    private static String sectionOf(String all, String title) {
        int from = all.indexOf("\n## " + title);
        if (from < 0) return "";
        from += ("\n## " + title).length();
        int to = all.indexOf("\n## ", from);
        String section = all.substring(from, to < 0 ? all.length() : to);
        return section.replaceAll("```(text)?", " ").replaceAll("==== \\d", " ").replaceAll("\\s+", " ").trim();
    }

    boolean isHere() {
        return isHere;
    }

    /** The lines of "The public face" that tell a member, without their end. */
    List<String> face() {
        List<String> lines = new ArrayList<>();
        int from = all.indexOf("\n## The public face"), to = all.indexOf("\n## Terms");
        if (from < 0 || to < from) return lines;
        for (String line : all.substring(from, to).split("\n"))
            if (line.startsWith("    public ")) lines.add(line.trim().replaceAll(";$", ""));
        return lines;
    }

    /** How a promise tells its call, as "int set(int machine, ..)". */
    String call(int promise) {
        String section = sectionOf(all, "Promise " + promise + ":");
        int from = section.indexOf('`'), to = section.indexOf('`', from + 1);
        return from < 0 || to < 0 ? "" : section.substring(from + 1, to);
    }

    /** Whether the words stand at the promise, or in what goes for all promises. */
    boolean has(int promise, String sentence) {
        boolean found = !isHere;
        for (int s : new int[] {promise, 0, WHAT_IT_IS, NOT_PROMISED}) {
            int at = words[s].indexOf(sentence);
            if (at < 0) continue;
            Arrays.fill(quoted[s], at, at + sentence.length(), true);
            found = true;
        }
        return found;
    }

    /** What no test has quoted. */
    List<String> unquoted() {
        List<String> left = new ArrayList<>();
        for (int s = 0; s < SECTIONS; s++) {
            StringBuilder gap = new StringBuilder();
            for (int i = 0; i <= words[s].length(); i++) {
                if (i < words[s].length() && !quoted[s][i]) {
                    gap.append(words[s].charAt(i));
                } else {
                    if (gap.chars().anyMatch(Character::isLetterOrDigit)) left.add(nameOf(s) + ": " + gap);
                    gap.setLength(0);
                }
            }
        }
        return left;
    }

    private static String nameOf(int section) {
        if (section == WHAT_IT_IS) return "What it is";
        if (section == NOT_PROMISED) return "Not promised";
        return section == 0 ? "Terms" : "Promise " + section;
    }
}
