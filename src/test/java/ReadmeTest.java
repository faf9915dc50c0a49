import java.nio.file.Files;
import java.nio.file.Path;

/** The example of README.md: it stands there as it stands here, and answers what it says there. */
public final class ReadmeTest {
    private static final Check CHECK = new Check("ReadmeTest");
    private static final Path SOURCE = Path.of("src/test/java/ReadmeTest.java");
    private static final String FROM = "// README: from here";
    private static final String TO = "// README: to here";

    public static void main(String[] args) throws Exception {
        example();
        sameInReadme();
        CHECK.end();
    }

    private static void example() {
        // README: from here
        HopeDrawer drawer = new HopeDrawer();
        feedText(drawer, "letter ann 3 5 2 0; letter bob 7 1 4 1; reader cyd 5 3 2; reader dan 2 6 0;"
            + " likes = 12 - apart * 2; returns = age - grief;");
        int fault = drawer.read();             // 0; else the fault's number, and place() tells the byte
        int day = drawer.days(2);              // two days go by: 2
        int holder = drawer.letter(0, 5);      // who has letter 0: reader 0
        int liking = drawer.tells(0, holder, 0); // how much that one likes it: 12
        int sentBack = drawer.first();         // behind how many days anything is sent back: 2
        int found = drawer.search(1, 0);       // in whose drawer to look first for letter 1: reader 1
        boolean undone = drawer.undo();        // true: it is day 0 again
        // README: to here
        CHECK.due("fault", fault, 0);
        CHECK.due("day", day, 2);
        CHECK.due("holder", holder, 0);
        CHECK.due("liking", liking, 12);
        CHECK.due("sentBack", sentBack, 2);
        CHECK.due("found", found, 1);
        CHECK.due("undone", undone, true);
        CHECK.due("day 0 again", drawer.count(2), 0);
    }

    // README: from here
    /** Twenty bytes a call; what the last call has too many of goes by back. */
    static void feedText(HopeDrawer drawer, String text) {
        int[] words = new int[5];
        int padding = (20 - text.length() % 20) % 20;
        for (int at = 0; at < text.length() + padding; at++) {
            int sign = at < text.length() ? text.charAt(at) & 255 : ' ';
            words[at % 20 / 4] = words[at % 20 / 4] << 8 | sign;
            if (at % 20 == 19) {
                drawer.feed(words[0], words[1], words[2], words[3], words[4]);
            }
        }
        drawer.back(padding);
    }
    // README: to here

    private static void sameInReadme() throws Exception {
        String readme = withoutIndents(Files.readString(Path.of("README.md")));
        StringBuilder part = new StringBuilder();
        boolean inside = false;
        int parts = 0;
        for (String line : Files.readString(SOURCE).split("\n")) {
            if (line.strip().equals(TO)) {
                inside = false;
                parts++;
                CHECK.due("part " + parts + " stands in README.md", readme.contains(part), true);
                part.setLength(0);
            }
            if (inside) {
                part.append(line.strip()).append('\n');
            }
            inside |= line.strip().equals(FROM);
        }
        CHECK.due("parts", parts, 2);
    }

    private static String withoutIndents(String text) {
        StringBuilder lines = new StringBuilder();
        for (String line : text.split("\n")) {
            lines.append(line.strip()).append('\n');
        }
        return lines.toString();
    }
}
