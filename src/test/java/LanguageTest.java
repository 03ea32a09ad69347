import java.nio.file.Files;
import java.nio.file.Path;
import java.util.List;
import java.util.regex.Matcher;
import java.util.regex.Pattern;

/** What of LANGUAGE.md can be seen in the source's words; run where .ci/run runs it, at the project's top. */
public final class LanguageTest {
    private static final String[] FORBIDDEN = {"\\bthrow\\b", "\\bthrows\\b", "\\btry\\b", "\\bcatch\\b",
        "\\bsynchronized\\b", "\\bassert\\b", "\\bvolatile\\b", "\\bpackage\\b", "->", "::", "Exact\\b", "\\bequals\\b",
        "\\bhashCode\\b", "\\btoString\\b", "\\bObject\\b", "\\bThread\\b", "\\bRandom\\b", "\\brandom\\b",
        "\\bnanoTime\\b", "\\bcurrentTimeMillis\\b", "\\bprotected\\b", "static\\s*\\{", "String\\s*\\[", "@",
        "\\bSystem\\.(?!arraycopy\\b)", "\\bimport (?!java\\.util\\.Arrays;)", "\\bArrays\\.(?!fill\\b|copyOf)",
        "\"\\s*\\+", "\\+\\s*\"", "[^\\x00-\\x7f]"};
    private static final int LONGEST_METHOD = 62;

    public static void main(String[] args) throws Exception {
        Due due = new Due();
        Path file = Path.of("src/main/java/FootOnTheOtherPedal.java");
        String source = Files.readString(file);
        String code = source.replaceAll("(?s)/\\*.*?\\*/", "").replaceAll("//[^\n]*", "");
        for (String word : FORBIDDEN) {
            Matcher found = Pattern.compile(word).matcher(code);
            due.holds("none of " + word, !found.find());
        }
        methodsAreShort(due, Files.readAllLines(file));
        due.end();
    }

    /** A method begins with a line that ends with ) { and ends with the brace that stands as far in. */
    private static void methodsAreShort(Due due, List<String> lines) {
        int methods = 0;
        for (int k = 0; k < lines.size(); k++) {
            String line = lines.get(k);
            String in = line.substring(0, line.length() - line.stripLeading().length());
            boolean begins = (in.length() == 4 || in.length() == 8) && line.endsWith(") {")
                && !line.strip().matches("(if|for|switch|while|\\}).*");
            if (!begins) {
                continue;
            }
            methods++;
            int end = k;
            while (end < lines.size() && !lines.get(end).equals(in + "}")) {
                end++;
            }
            due.holds(line.strip() + " has " + (end - k + 1) + " lines", end - k + 1 <= LONGEST_METHOD);
        }
        due.holds("methods were found", methods > 50);
    }
}
