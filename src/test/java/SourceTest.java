import java.io.IOException;
import java.nio.file.Files;
import java.nio.file.Path;
import java.util.HashSet;
import java.util.List;
import java.util.Set;
import java.util.regex.Matcher;
import java.util.regex.Pattern;

/** Rules of LANGUAGE.md that can be seen in the text of the class; each check names its rule. */
public final class SourceTest {
    private static final Path SOURCE = Path.of("src/main/java/DoorNet.java");
    private static final Set<String> FACE = Set.of(
        "box", "wire", "cycle", "drift", "way", "stream", "strike", "plan", "add", "stir", "place", "tries", "door",
        "waits", "worst", "clock", "send", "leaves", "room", "plain", "most", "count");
    private static final Set<String> LIBRARY = Set.of("Math.max", "Math.min", "Math.floorMod", "Integer.bitCount");
    private static final Pattern METHOD = Pattern.compile("(?:    ){1,2}(?:(?:public|private|static) )*[\\w\\[\\]]+ (\\w+)\\(.*\\) \\{");

    private static final Check CHECK = new Check();

    public static void main(String[] args) throws IOException {
        CHECK.promise("LANGUAGE.md");
        List<String> lines = Files.readAllLines(SOURCE);
        String code = withoutComments(String.join("\n", lines));
        words(code);
        library(code);
        classes(code);
        methods(lines);
        nulls(code);
        CHECK.end();
    }

    private static String withoutComments(String text) {
        return text.replaceAll("(?s)/\\*.*?\\*/", "").replaceAll("//[^\n]*", "");
    }

    private static int times(String code, String pattern) {
        Matcher found = Pattern.compile(pattern).matcher(code);
        int times = 0;
        while (found.find()) {
            times++;
        }
        return times;
    }

    private static void words(String code) {
        for (String word : List.of("throw", "throws", "try", "catch", "synchronized", "assert")) {
            CHECK.due("rule 6: " + word, times(code, "\\b" + word + "\\b"), 0);
        }
        for (String sign : List.of("->", "::", "\"", "@")) {
            CHECK.due("rules 2, 3: " + sign, times(code, Pattern.quote(sign)), 0);
        }
        for (String word : List.of("package", "protected", "native", "volatile", "strictfp")) {
            CHECK.due("rules 1, 13: " + word, times(code, "\\b" + word + "\\b"), 0);
        }
        CHECK.due("rule 5: static initialiser", times(code, "static\\s*\\{"), 0);
        CHECK.due("rule 1: public members and the class", times(code, "\\bpublic\\b"), FACE.size() + 3);
    }

    /** Names of the library begin with a capital, as constants and own classes do, and are followed by a point. */
    private static void library(String code) {
        Matcher found = Pattern.compile("\\b([A-Z]\\w*)\\.(\\w+)\\(").matcher(code);
        while (found.find()) {
            String name = found.group(1) + "." + found.group(2);
            boolean own = code.contains("class " + found.group(1) + " ");
            CHECK.due("rule 4: " + name, own || LIBRARY.contains(name), true);
        }
    }

    private static void classes(String code) {
        CHECK.due("rule 11: classes", times(code, "\\bclass ") <= 12, true);
        CHECK.due("rule 2: all inside are private and static", times(code, "private static final class "), times(code, "\\bclass ") - 1);
        Matcher made = Pattern.compile("\\bnew (\\w+)").matcher(code);
        while (made.find()) {
            boolean own = code.contains("class " + made.group(1) + " ");
            CHECK.due("rule 3: new " + made.group(1), own || made.group(1).equals("int"), true);
        }
    }

    private static void methods(List<String> lines) {
        Set<String> seen = new HashSet<>();
        for (int n = 0; n < lines.size(); n++) {
            Matcher head = METHOD.matcher(lines.get(n));
            if (!head.matches() || head.group(1).equals("DoorNet")) {
                continue;
            }
            String name = head.group(1);
            if (lines.get(n).startsWith("    public ")) {
                seen.add(name);
            } else {
                CHECK.due("rule 1: another " + name, FACE.contains(name), false);
            }
            CHECK.due("rule 11: lines of " + name, endOf(lines, n) - n < 60, true);
        }
        CHECK.due("rule 1: the face", seen.equals(FACE), true);
    }

    private static int endOf(List<String> lines, int head) {
        String indent = lines.get(head).replaceAll("\\S.*", "");
        int n = head;
        while (n + 1 < lines.size() && !lines.get(n).equals(indent + "}")) {
            n++;
        }
        return n;
    }

    /** Slots of these arrays are null at first: they are read only where the answer is tested. */
    private static void nulls(String code) {
        CHECK.due("rule 7: reads of letters[..]", times(code, "letters\\[[^\\]]*\\](?! =)"), 1);
        CHECK.due("rule 7: it is letter(l)'s", times(code, "l >= 0 && l < told \\? letters\\[l\\] : null"), 1);
        CHECK.due("rule 7: members of letters[..]", times(code, "letters\\[[^\\]]*\\]\\."), 0);
        CHECK.due("rule 7: members of heads[..]", times(code, "heads\\[[^\\]]*\\]\\."), 0);
        CHECK.due("rule 7: members of all[..]", times(code, "\\ball\\[[^\\]]*\\]\\."), 0);
        CHECK.due("rule 7: members of sought[..]", times(code, "sought\\[[^\\]]*\\]\\."), 0);
        Matcher taken = Pattern.compile("(\\w+) it = (letter|streams\\.one|streams\\.placedOne|one|post\\.letter)\\(\\w+\\);\\s*"
            + "(if \\(it (==|!=) null|return it != null)").matcher(code);
        int tested = 0;
        while (taken.find()) {
            tested++;
        }
        CHECK.due("rule 7: each of them is tested at once", tested,
            times(code, " it = (letter|streams\\.one|streams\\.placedOne|one|post\\.letter)\\("));
    }
}
