import java.io.IOException;
import java.io.UncheckedIOException;
import java.nio.charset.StandardCharsets;
import java.nio.file.Files;
import java.nio.file.Path;

/** What the tests of the promises have in common: texts come on the tape, answers are held against what is due. */
final class Rig {
    private static int wrong = 0;
    private static int asked = 0;
    private static String promise = "";
    private static String document = null;

    private Rig() {
    }

    static void promise(int number) {
        promise = "promise " + number + ": ";
    }

    /** The words of the document that the answers from here on are held against; it must have these very words. */
    static void says(String words) {
        if (document == null) {
            document = documentText();
        }
        promise = "[" + words + "] ";
        due("the document says so", document.contains(words), true);
    }

    private static String documentText() {
        try {
            return Files.readString(Path.of("../shared/DOC.md"), StandardCharsets.UTF_8).replaceAll("\\s+", " ");
        } catch (IOException e) {
            throw new UncheckedIOException(e);
        }
    }

    static void due(String what, long got, long want) {
        asked++;
        if (got != want) {
            wrong++;
            System.out.println(promise + what + " answered " + got + ", due is " + want);
        }
    }

    static void due(String what, boolean got, boolean want) {
        due(what, got ? 1 : 0, want ? 1 : 0);
    }

    /** An answer with STATUS 0. */
    static void fine(String what, TideDiscs x, long got, long want) {
        due(what, got, want);
        due("status of " + what, x.status(), 0);
    }

    static void fine(String what, TideDiscs x, boolean got) {
        due(what, got, true);
        due("status of " + what, x.status(), 0);
    }

    /** NONE with another STATUS than 0. */
    static void refused(String what, TideDiscs x, long got, int status) {
        due(what, got, TideDiscs.NONE);
        due("status of " + what, x.status(), status);
    }

    static void refused(String what, TideDiscs x, boolean got, int status) {
        due(what, got, false);
        due("status of " + what, x.status(), status);
    }

    static void fraction(String what, TideDiscs x, long top, long bottom) {
        due("top of " + what, x.top(), top);
        due("bottom of " + what, x.bottom(), bottom);
    }

    static int feed(TideDiscs x, String text) {
        int many = 0;
        for (int i = 0; i < text.length(); i += 20) {
            int[] five = new int[5];
            for (int j = 0; j < 20; j++) {
                int b = i + j < text.length() ? text.charAt(i + j) & 255 : 32;
                five[j / 4] = five[j / 4] << 8 | b;
            }
            many = x.feed(five[0], five[1], five[2], five[3], five[4]);
        }
        return many;
    }

    static int machine(TideDiscs x, int machine, String text) {
        feed(x, text);
        return x.machine(machine, text.length());
    }

    static int orders(TideDiscs x, String text) {
        feed(x, text);
        return x.orders(text.length());
    }

    /** A new object whose MACHINE 0 is this text. */
    static TideDiscs with(String text) {
        TideDiscs x = new TideDiscs();
        due("machine [" + text + "]", machine(x, 0, text) >= 0, true);
        return x;
    }

    static void fill(TideDiscs x, int tray, long... numbers) {
        due("tray " + tray, x.tray(tray, 2, numbers.length), true);
        for (int i = 0; i < numbers.length; i++) {
            due("write " + tray, x.write(tray, i, numbers[i]), true);
        }
    }

    /** A text that has a FAULT of this kind at this place. */
    static void badMachine(String text, int kind, int place) {
        TideDiscs x = new TideDiscs();
        refused("machine [" + text + "]", x, machine(x, 0, text), 10);
        due("kind of [" + text + "]", x.fault(0), kind);
        due("place of [" + text + "]", x.fault(1), place);
    }

    static void badOrders(String text, int kind, int place) {
        TideDiscs x = new TideDiscs();
        refused("orders [" + text + "]", x, orders(x, text), 10);
        due("kind of [" + text + "]", x.fault(0), kind);
        due("place of [" + text + "]", x.fault(1), place);
    }

    static void end() {
        System.out.println(asked + " answers asked for, " + wrong + " not as due");
        if (wrong != 0) {
            System.exit(1);
        }
    }
}
