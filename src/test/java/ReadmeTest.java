import java.io.IOException;
import java.nio.file.Files;
import java.nio.file.Path;
import java.util.List;

/** The example of README.md: its calls answer what stands beside them there. */
public final class ReadmeTest {
    private static final ValueDesk DESK = new ValueDesk();
    private static List<String> lines;
    private static int next = 0;

    public static void main(String[] args) throws IOException {
        lines = Files.readAllLines(Path.of("README.md"));
        next = lines.indexOf("ValueDesk desk = new ValueDesk();");
        Check.yes("the example stands in README.md", next >= 0);
        Check.yes("put", DESK.put(0x782679, 3));
        stands("desk.put(0x782679, 3);", "x&y");
        stands("desk.value(0, 100);", "" + DESK.value(0, 100));
        stands("desk.place();", "" + DESK.place());
        Check.yes("put", DESK.put(0x61620A63, 4));
        stands("desk.put(0x61620A63, 4);", "ab");
        stands("desk.define(0);", "" + DESK.define(0));
        Check.yes("put", DESK.put(0x5B26613B5DL, 5));
        stands("desk.put(0x5B26613B5DL, 5);", "[&a;]");
        stands("desk.value(0, 100);", "" + DESK.value(0, 100));
        stands("desk.characters(0);", "0x" + Long.toHexString(DESK.characters(0)).toUpperCase());
        Check.due("the value", Check.lastValue(DESK), "[ab c]");
        stands("desk.count(3);", "" + DESK.count(3));
        Check.end();
    }

    /** The next call of the example, with what it answers at the head of the comment behind it. */
    private static void stands(String call, String answer) {
        do {
            next++;
        } while (next < lines.size() && lines.get(next).isEmpty());
        String line = next < lines.size() ? lines.get(next) : "";
        Check.yes("the example's line is " + call + " // " + answer + ": " + line,
            line.matches("\\Q" + call + "\\E *// \\Q" + answer + "\\E(?![0-9A-F]).*"));
    }
}
