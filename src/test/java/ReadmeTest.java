import java.nio.file.Files;
import java.nio.file.Path;
import java.util.List;

/** README.md's own calls: each answers what its comment there says. */
public final class ReadmeTest {
    private static final Due due = new Due();

    public static void main(String[] args) throws Exception {
        List<String> shown = Files.readAllLines(Path.of("README.md"));
        FootOnTheOtherPedal x = new FootOnTheOtherPedal();
        int one = x.learner(1, 3);
        is(shown, "int one = x.learner(1, 3);", one);
        is(shown, "x.set(1, 0, 12);", x.set(1, 0, 12));
        is(shown, "x.drive(one, 0, 2);", x.drive(one, 0, 2));
        is(shown, "x.best(one, 0);", x.best(one, 0));
        is(shown, "x.night();", x.night());
        String rule = rule(shown);
        for (int k = 0; k < rule.length(); k++) {
            x.feed(rule.charAt(k));
        }
        int text = x.text();
        is(shown, "int text = x.text();", text);
        is(shown, "x.force(text);", x.force(text));
        is(shown, "x.asks(one, 0, 1);", x.asks(one, 0, 1));
        is(shown, "x.film(0, one, 1, 5);", x.film(0, one, 1, 5));
        is(shown, "x.tells(0, one, 1, 0);", x.tells(0, one, 1, 0));
        is(shown, "x.tells(0, one, 1, 8);", x.tells(0, one, 1, 8));
        is(shown, "x.tells(0, one, 1, 1);", x.tells(0, one, 1, 1));
        due.end();
    }

    /** A line of README.md begins with the call; behind its // stands the answer. */
    private static void is(List<String> shown, String call, int answer) {
        boolean found = false;
        for (String line : shown) {
            if (line.startsWith(call)) {
                found = true;
                String comment = line.substring(line.indexOf("//") + 2).strip();
                due.is("README: " + call, answer, Integer.parseInt(comment.split("[: ]")[0]));
            }
        }
        due.holds("README shows " + call, found);
    }

    private static String rule(List<String> shown) {
        for (String line : shown) {
            if (line.startsWith("String rule = ")) {
                return line.substring(line.indexOf('"') + 1, line.lastIndexOf('"'));
            }
        }
        return "";
    }
}
