import java.io.IOException;
import java.nio.file.Files;
import java.nio.file.Path;
import java.util.Map;
import java.util.Set;
import java.util.TreeSet;
import java.util.regex.Matcher;
import java.util.regex.Pattern;

/** README.md's examples answer as they say, and show every call. */
public final class ReadmeTest {
    private static final Check CHECK = new Check("readme");
    private static final String NEW = "HairLine x = new HairLine();";
    private static final Pattern EXAMPLE = Pattern.compile("x\\.(\\w+)\\((.*)\\); +// (-?\\d+|[A-Z]+)(:.*)?");
    private static final Map<String, Integer> NAMES = Map.of(
        "UNKNOWN", HairLine.UNKNOWN, "OUTSIDE", HairLine.OUTSIDE, "STATE", HairLine.STATE,
        "FULL", HairLine.FULL, "NO", HairLine.NO, "NONE", HairLine.NONE);
    private static final int CALLS = 27;

    public static void main(String[] args) throws IOException {
        String[] parts = Files.readString(Path.of("README.md")).split("```");
        Set<String> shown = new TreeSet<>();
        for (int i = 1; i < parts.length; i += 2) {
            if (parts[i].startsWith("java\n")) {
                play(parts[i].substring(5).split("\n"), shown);
            }
        }
        CHECK.due("calls shown " + shown, shown.size(), CALLS);
        CHECK.end();
    }

    private static void play(String[] lines, Set<String> shown) {
        CHECK.isTrue("begins anew: " + lines[0], lines[0].equals(NEW));
        HairLine x = new HairLine();
        for (int i = 1; i < lines.length; i++) {
            Matcher m = EXAMPLE.matcher(lines[i]);
            CHECK.isTrue("an example: " + lines[i], m.matches());
            if (m.matches()) {
                shown.add(m.group(1));
                CHECK.due(lines[i], new Call(m.group(1), numbers(m.group(2))).on(x), answer(m.group(3)));
            }
        }
    }

    private static long answer(String text) {
        Integer named = NAMES.get(text);
        return named != null ? named : Long.parseLong(text);
    }

    private static int[] numbers(String text) {
        if (text.isEmpty()) {
            return new int[0];
        }
        String[] parts = text.split(", ");
        int[] found = new int[parts.length];
        for (int i = 0; i < parts.length; i++) {
            boolean sign = parts[i].length() == 3 && parts[i].charAt(0) == '\'';
            found[i] = sign ? parts[i].charAt(1) : Integer.parseInt(parts[i]);
        }
        return found;
    }
}
