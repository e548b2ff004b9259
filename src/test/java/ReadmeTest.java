import java.nio.charset.StandardCharsets;
import java.nio.file.Files;
import java.nio.file.Path;
import java.util.ArrayList;
import java.util.List;

/** The example in README.md: it stands here line by line, and its answers are those that its comments tell. */
public final class ReadmeTest {
    public static void main(String[] args) throws Exception {
        sameLines();
        example();
        statuses();
        Rig.end();
    }

    private static void example() {
        // from README.md
        TideDiscs x = new TideDiscs();
        // a text comes on the tape twenty bytes at a time, four in each int, the highest first
        x.feed(0x77617665, 0x206d2074, 0x75726e73, 0x20312069, 0x6e203234);   // wave m turns 1 in 24
        x.feed(0x2073697a, 0x65203130, 0x3b202020, 0x20202020, 0x20202020);   //  size 10;
        int waves = x.machine(0, 29);                   // 1: MACHINE 0 is the first 29 bytes, and has one WAVE
        int height = x.height(0, 12, false);            // -120: SIZE 10 times COS of PLACE 12
        int why = x.status();                           // 0: the call was taken
        int low = x.water(0, 0, false, false, 0);       // 11: the first LOW WATER of DAY 0
        int second = x.water(0, 0, false, false, 1);    // -1, which is NONE: there is no second one
        int whyNot = x.status();                        // 8: there is none

        // a GAUGE is two TRAYS: HOURS in the one, what was read in the other
        x.tray(0, 2, 4);
        x.tray(1, 2, 4);
        for (int i = 0; i < 4; i++) {
            x.write(0, i, 6 * i);
            x.write(1, i, new int[] {15, 7, 3, 11}[i]);
        }
        boolean parted = x.settings(0, 0, 0, 0, 1, 4, 1);   // true: COS's part of WAVE 0 is the FRACTION now
        long top = x.top();                             // 1
        long bottom = x.bottom();                       // 2
        // so far README.md
        Rig.due("waves", waves, 1);
        Rig.due("height", height, -120);
        Rig.due("why", why, 0);
        Rig.due("low", low, 11);
        Rig.due("second", second, -1);
        Rig.due("whyNot", whyNot, 8);
        Rig.due("parted", parted, true);
        Rig.due("top", top, 1);
        Rig.due("bottom", bottom, 2);
    }

    private static void sameLines() throws Exception {
        List<String> told = between(Path.of("README.md"), "```java", "```");
        List<String> tested = between(Path.of("src/test/java/ReadmeTest.java"), "// from README.md", "// so far README.md");
        Rig.due("lines of the example", told.size(), tested.size());
        for (int i = 0; i < Math.min(told.size(), tested.size()); i++) {
            Rig.due("line " + i + " of the example: " + told.get(i), told.get(i).equals(tested.get(i)), true);
        }
    }

    private static List<String> between(Path file, String first, String last) throws Exception {
        List<String> found = new ArrayList<>();
        boolean inside = false;
        for (String line : Files.readAllLines(file, StandardCharsets.UTF_8)) {
            String text = line.trim();
            if (inside && text.equals(last)) {
                break;
            }
            if (inside) {
                found.add(text);
            }
            inside = inside || text.equals(first);
        }
        Rig.due("lines in " + file, found.isEmpty(), false);
        return found;
    }

    /** What README.md says of calls without a STATUS, of -1 and of NONE that are answers. */
    private static void statuses() {
        TideDiscs x = Rig.with("wave a turns 1 in 24 size 1 at 6;");
        Rig.refused("told", x, x.told(2, 0), 2);
        x.fault(0);
        x.fault(7);
        x.feed(0, 0, 0, 0, 0);
        x.top();
        x.bottom();
        Rig.due("status stays", x.status(), 2);
        Rig.fill(x, 2, -1, 0);
        Rig.fine("-1 read", x, x.read(2, 0), -1);
        Rig.fill(x, 0, 0, 1);
        Rig.fine("no wheel", x, x.led(0, 0, 0, 2), TideDiscs.NONE);
        x.set(0, 0, 0, 0);
        Rig.fine("no wave", x, x.spread(0, 0, 0, 5), TideDiscs.NONE);
        Rig.fine("in no hour", x, x.compare(0, 5, 0), TideDiscs.NONE);
        Rig.fill(x, 3, 0, 0);
        Rig.fine("all are right", x, x.table(0, 3, 0, 2), TideDiscs.NONE);
        Rig.refused("a fault", x, x.machine(0, 1), 10);
        Rig.due("its kind", x.fault(0), 1);
        Rig.due("its place", x.fault(1), 0);
        Rig.due("the tape is empty", x.feed(0, 0, 0, 0, 0), 20);
        Rig.fine("the machine ahead stays", x, x.told(0, 0), 1);
        Rig.refused("no such machine", x, x.machine(2, 20), 2);
        Rig.refused("no such length", x, x.machine(0, 21), 5);
        Rig.refused("no such length", x, x.orders(21), 5);
        Rig.due("the tape stays", x.feed(0, 0, 0, 0, 0), 40);
    }
}
