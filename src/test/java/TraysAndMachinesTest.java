/** Promises 1 to 14: a new object, TRAYS, texts. */
public final class TraysAndMachinesTest {
    private static final int NONE = TideDiscs.NONE;
    private static final String WAVE = "wave m turns 1 in 24";

    public static void main(String[] args) {
        newObject();
        statusAndFraction();
        tray();
        writeAndRead();
        pour();
        feed();
        machine();
        faultsOfTokens();
        faultsOfParts();
        faultsOfNumbers();
        faultsOfTooMany();
        fault();
        told();
        wave();
        set();
        Rig.end();
    }

    private static void newObject() {
        Rig.promise(1);
        TideDiscs x = new TideDiscs();
        Rig.due("status", x.status(), 0);
        Rig.fraction("a new object", x, 0, 1);
        Rig.due("NONE", NONE, -1);
        for (int t = 0; t < 5; t++) {
            Rig.refused("read " + t, x, x.read(t, 0), 3);
        }
        for (int m = 0; m < 2; m++) {
            for (int what = 0; what < 4; what++) {
                Rig.fine("told " + m, x, x.told(m, what), 0);
            }
            Rig.fine("height " + m, x, x.height(m, 99999, true), 0);
        }
        Rig.refused("machine of one byte", x, x.machine(0, 1), 5);
        Rig.fine("obey", x, x.obey(0, 77), 77);
        Rig.fine("obeyed", x, x.obeyed(0), 0);
        Rig.due("first feed", x.feed(0, 0, 0, 0, 0), 20);
    }

    private static void statusAndFraction() {
        Rig.promise(2);
        TideDiscs x = new TideDiscs();
        Rig.refused("told", x, x.told(2, 0), 2);
        x.status();
        x.fault(0);
        x.top();
        x.bottom();
        x.feed(1, 2, 3, 4, 5);
        Rig.due("status stays over calls without one", x.status(), 2);
        Rig.fine("told", x, x.told(1, 0), 0);

        Rig.promise(3);
        x = Rig.with(WAVE + " train 10 20; wave n turns 5 in 7 train 20 10 30 40;");
        Rig.fine("off", x, x.off(0, 1, 7));
        Rig.due("top", x.top(), 219);
        Rig.due("bottom", x.bottom(), 2);
        Rig.refused("off", x, x.off(0, 2, 7), 2);
        Rig.fraction("refused off", x, 219, 2);
        Rig.promise(4);
        Rig.fine("off", x, x.off(0, 0, 24));
        Rig.fraction("off", x, 12, 1);
        Rig.fine("off", x, x.off(0, 1, 0));
        Rig.fraction("nothing", x, 0, 1);
    }

    private static void tray() {
        Rig.promise(5);
        TideDiscs x = new TideDiscs();
        Rig.fine("longest", x, x.tray(4, 3, 60));
        for (int i = 0; i < 60; i++) {
            Rig.fine("read", x, x.read(4, i), 0);
        }
        Rig.refused("read behind it", x, x.read(4, 60), 4);
        Rig.fine("write", x, x.write(4, 0, 5));
        Rig.refused("too long", x, x.tray(4, 3, 61), 5);
        Rig.refused("much too long", x, x.tray(4, 3, Integer.MAX_VALUE), 5);
        Rig.refused("below 0", x, x.tray(4, 3, -1), 6);
        Rig.refused("far below 0", x, x.tray(0, 0, Integer.MIN_VALUE), 6);
        Rig.refused("no tray 5", x, x.tray(5, 0, 1), 1);
        Rig.refused("no tray -1", x, x.tray(-1, 0, 61), 1);
        Rig.refused("no sort 4", x, x.tray(0, 4, 61), 1);
        Rig.refused("no sort -1", x, x.tray(0, -1, -1), 1);
        Rig.fine("what was refused changed nothing", x, x.read(4, 0), 5);
        Rig.refused("nor made a tray", x, x.read(0, 0), 3);
        Rig.fine("anew", x, x.tray(4, 0, 2));
        Rig.fine("all 0 again", x, x.read(4, 0), 0);
        Rig.fine("of none", x, x.tray(4, 0, 0));
        Rig.refused("read of none", x, x.read(4, 0), 4);
    }

    private static void writeAndRead() {
        Rig.promise(6);
        TideDiscs x = new TideDiscs();
        long[] wants = {-1, 0x1fe - 0x200, 0x12345678, 0x123456789abcdef0L};
        for (int sort = 0; sort < 4; sort++) {
            Rig.fine("tray", x, x.tray(sort, sort, 3));
        }
        Rig.fine("8 bits", x, x.write(0, 2, 0x7ff));
        Rig.fine("read", x, x.read(0, 2), wants[0]);
        Rig.fine("8 bits", x, x.write(0, 2, 128));
        Rig.fine("read", x, x.read(0, 2), -128);
        Rig.fine("16 bits", x, x.write(1, 0, 0x12348000L));
        Rig.fine("read", x, x.read(1, 0), -32768);
        Rig.fine("16 bits", x, x.write(1, 0, -32769));
        Rig.fine("read", x, x.read(1, 0), 32767);
        Rig.fine("32 bits", x, x.write(2, 1, 0x7fff12345678L));
        Rig.fine("read", x, x.read(2, 1), wants[2]);
        Rig.fine("32 bits", x, x.write(2, 1, 0x80000000L));
        Rig.fine("read", x, x.read(2, 1), Integer.MIN_VALUE);
        Rig.fine("64 bits", x, x.write(3, 1, wants[3]));
        Rig.fine("read", x, x.read(3, 1), wants[3]);
        Rig.fine("64 bits", x, x.write(3, 1, Long.MIN_VALUE));
        Rig.fine("read", x, x.read(3, 1), Long.MIN_VALUE);
        Rig.refused("no tray", x, x.write(5, 0, 1), 1);
        Rig.refused("no tray", x, x.write(-1, 9, 1), 1);
        Rig.refused("missing", x, x.write(4, 99, 1), 3);
        Rig.refused("no place", x, x.write(3, 3, 1), 4);
        Rig.refused("no place", x, x.write(3, -1, 1), 4);

        Rig.promise(7);
        Rig.fine("write", x, x.write(3, 0, -1));
        Rig.fine("-1 is no NONE", x, x.read(3, 0), -1);
        Rig.refused("no tray", x, x.read(5, 0), 1);
        Rig.refused("missing", x, x.read(4, 0), 3);
        Rig.refused("no place", x, x.read(3, 3), 4);
        Rig.refused("no place", x, x.read(3, Integer.MIN_VALUE), 4);
    }

    private static void pour() {
        Rig.promise(8);
        TideDiscs x = new TideDiscs();
        Rig.fill(x, 0, 1, 2, 3, 4, 5);
        Rig.fill(x, 1, 0, 0, 0);
        Rig.fine("to another", x, x.pour(0, 3, 1, 0, 2));
        row(x, 1, 4, 5, 0);
        Rig.fine("forward in itself", x, x.pour(0, 0, 0, 1, 4));
        row(x, 0, 1, 1, 2, 3, 4);
        Rig.fine("back in itself", x, x.pour(0, 1, 0, 0, 4));
        row(x, 0, 1, 2, 3, 4, 4);
        Rig.fine("nothing at the end", x, x.pour(0, 5, 1, 3, 0));
        Rig.refused("behind the end", x, x.pour(0, 6, 1, 3, 0), 4);
        Rig.refused("too few here", x, x.pour(0, 3, 1, 0, 3), 4);
        Rig.refused("too few there", x, x.pour(0, 0, 1, 1, 3), 4);
        Rig.refused("ahead of the first", x, x.pour(0, -1, 1, 0, 1), 4);
        Rig.refused("ahead of the first there", x, x.pour(0, 0, 1, -1, 1), 4);
        Rig.refused("far too many", x, x.pour(0, 1, 1, 1, Integer.MAX_VALUE), 4);
        Rig.refused("below 0 is asked ahead of places", x, x.pour(0, 9, 1, 9, -1), 6);
        x.tray(2, 1, 5);
        Rig.refused("unlike sorts ahead of below 0", x, x.pour(0, 0, 2, 0, -1), 11);
        Rig.refused("missing ahead of unlike sorts", x, x.pour(3, 0, 2, 0, -1), 3);
        Rig.refused("missing there", x, x.pour(2, 0, 3, 0, 1), 3);
        Rig.refused("no tray ahead of missing", x, x.pour(3, 0, 5, 0, 1), 1);
        Rig.refused("no tray", x, x.pour(-1, 0, 0, 0, 1), 1);
        row(x, 0, 1, 2, 3, 4, 4);
        row(x, 1, 4, 5, 0);
    }

    private static void row(TideDiscs x, int tray, long... wants) {
        for (int i = 0; i < wants.length; i++) {
            Rig.fine("place " + i, x, x.read(tray, i), wants[i]);
        }
    }

    private static void feed() {
        Rig.promise(9);
        TideDiscs x = new TideDiscs();
        for (int i = 1; i <= 30; i++) {
            Rig.due("feed", x.feed(0x20202020, 0, 0, 0, 0), 20 * i);
        }
        Rig.due("one too many", x.feed(0, 0, 0, 0, 0), NONE);
        Rig.due("status has not changed", x.status(), 0);
        Rig.refused("all of it", x, x.machine(0, 600), 10);
        Rig.due("a byte of 0", x.fault(0), 1);
        Rig.due("its place", x.fault(1), 4);
        Rig.due("room again", x.feed(0, 0, 0, 0, 0), 20);
        // the highest byte of each int comes first: zero 7;
        String whole = "zero 7;" + " ".repeat(585) + "slack 9;";
        Rig.due("all 600", whole.length(), 600);
        x = new TideDiscs();
        Rig.fine("all 600", x, Rig.machine(x, 0, whole), 0);
        Rig.fine("the last ones, too", x, x.told(0, 2), 9);
        x = new TideDiscs();
        Rig.due("feed", x.feed(0x7a65726f, 0x20373b20, 0x20202020, 0xffffffff, 0xffffffff), 20);
        Rig.fine("machine", x, x.machine(1, 7), 0);
        Rig.fine("zero", x, x.told(1, 3), 7);
    }

    private static void machine() {
        Rig.promise(10);
        TideDiscs x = new TideDiscs();
        Rig.feed(x, WAVE + ";");
        Rig.refused("no machine", x, x.machine(2, 1000), 2);
        Rig.refused("no machine", x, x.machine(-1, 0), 2);
        Rig.refused("below 0", x, x.machine(0, -1), 5);
        Rig.refused("more than there are", x, x.machine(0, 41), 5);
        Rig.fine("2 and 5 keep the tape", x, x.machine(0, 40), 1);
        Rig.refused("the tape is empty", x, x.machine(0, 1), 5);
        Rig.fine("an empty text", x, x.machine(1, 0), 0);
        Rig.feed(x, WAVE + ";");
        Rig.refused("cut off", x, x.machine(0, 20), 10);
        Rig.refused("the tape is empty", x, x.machine(0, 1), 5);
        Rig.fine("the old one stays", x, x.told(0, 0), 1);
        Rig.fine("blanks and order", x, Rig.machine(x, 0,
            "zero 3;\nbox 0 of 5;wave abcdefgh turns 0001in 9999train 5 200 200 5 at 23 size 99\n;slack\n\n99;"
            + "wave less turns 9999 in 1;"), 2);
        Rig.fine("turns", x, x.wave(0, 0, 0), 1);
        Rig.fine("hours", x, x.wave(0, 0, 1), 9999);
        Rig.fine("size", x, x.wave(0, 0, 2), 99);
        Rig.fine("at", x, x.wave(0, 0, 3), 23);
        Rig.fine("turns", x, x.wave(0, 1, 0), 9999);
        Rig.fine("slack", x, x.told(0, 2), 99);
        Rig.fine("names that are nearly alike", x, Rig.machine(x, 0, "wave a turns 1 in 1;wave aa turns 1 in 1;"
            + "wave ab turns 1 in 1;wave ba turns 1 in 1;wave aaaaaaaa turns 1 in 1;wave z turns 1 in 1;"), 6);
        Rig.fine("in place of the one ahead", x, Rig.machine(x, 0, "slack 1;"), 0);
        Rig.fine("zero is gone", x, x.told(0, 3), 0);
        Rig.fine("box is gone", x, x.told(0, 1), 0);
    }

    private static void faultsOfTokens() {
        Rig.badMachine("#", 1, 0);
        Rig.badMachine("  Wave", 1, 2);
        Rig.badMachine("zero 12345;", 1, 5);
        Rig.badMachine("zero 00001;", 1, 5);
        Rig.badMachine("zero 1\t;", 1, 6);
        Rig.badMachine("zero 1; \u00e9", 1, 8);
        Rig.badMachine(WAVE + " train 10 20 -5", 1, 33);
        Rig.badMachine("zero zero #", 2, 5);
        Rig.badMachine("wave #", 1, 5);
        Rig.badMachine("wave m turns ,", 1, 13);
    }

    private static void faultsOfParts() {
        Rig.badMachine(";", 2, 0);
        Rig.badMachine("5", 2, 0);
        Rig.badMachine("size 5;", 2, 0);
        Rig.badMachine("waves", 2, 0);
        Rig.badMachine("wav", 2, 0);
        Rig.badMachine("wave", 2, 4);
        Rig.badMachine("wave  \n", 2, 7);
        Rig.badMachine("wave 5", 2, 5);
        Rig.badMachine("wave abcdefghi turns", 2, 5);
        for (String kept : "wave turns in size at train box of slack zero".split(" ")) {
            Rig.badMachine("wave " + kept + " turns 1 in 24;", 2, 5);
        }
        Rig.badMachine("wave m in", 2, 7);
        Rig.badMachine("wave m turns in", 2, 13);
        Rig.badMachine("wave m turns 1 2", 2, 15);
        Rig.badMachine("wave m turns 1 in;", 2, 17);
        Rig.badMachine(WAVE, 2, 20);
        Rig.badMachine(WAVE + " zero 5;", 2, 21);
        Rig.badMachine(WAVE + " 5;", 2, 21);
        Rig.badMachine(WAVE + " size;", 2, 25);
        Rig.badMachine(WAVE + " at size", 2, 24);
        Rig.badMachine(WAVE + " train 10;", 2, 29);
        Rig.badMachine(WAVE + " train 10 20 30;", 2, 35);
        Rig.badMachine(WAVE + " train 10 20 30 40 50;", 2, 39);
        Rig.badMachine("box 1 5;", 2, 6);
        Rig.badMachine("box of 5;", 2, 4);
        Rig.badMachine("box 1 of;", 2, 8);
        Rig.badMachine("box 1 of 5", 2, 10);
        Rig.badMachine("slack;", 2, 5);
        Rig.badMachine("zero 1 1;", 2, 7);
        Rig.badMachine("zero 1;;", 2, 7);
        Rig.badMachine(WAVE + "; wave m turns 0", 3, 27);
        Rig.badMachine(WAVE + " size 1 at 1 size 1;", 5, 33);
        Rig.badMachine(WAVE + " at 1 at #", 5, 26);
        Rig.badMachine(WAVE + " train 5 5 train", 5, 31);
        Rig.badMachine("slack 1; slack 100;", 5, 9);
        Rig.badMachine("zero 0; slack 0; zero", 5, 17);
    }

    private static void faultsOfNumbers() {
        Rig.badMachine("wave m turns 0 in 0", 4, 13);
        Rig.badMachine("wave m turns 1 in 0", 4, 18);
        Rig.badMachine(WAVE + " size 100", 4, 26);
        Rig.badMachine(WAVE + " at 24", 4, 24);
        Rig.badMachine(WAVE + " train 4 10", 4, 27);
        Rig.badMachine(WAVE + " train 201 10", 4, 27);
        Rig.badMachine(WAVE + " train 10 4", 4, 30);
        Rig.badMachine(WAVE + " train 10 20 201 #", 4, 33);
        Rig.badMachine(WAVE + " train 10 20 30 0", 4, 36);
        Rig.badMachine("box 10 of 5;", 4, 4);
        Rig.badMachine("box 9 of 4;", 4, 9);
        Rig.badMachine("box 9 of 201;", 4, 9);
        Rig.badMachine("slack 100;", 4, 6);
        Rig.badMachine("zero 9999;", 4, 5);
        Rig.badMachine("zero 100;", 4, 5);
    }

    private static void faultsOfTooMany() {
        StringBuilder six = new StringBuilder();
        for (int i = 0; i < 6; i++) {
            six.append("wave ").append((char) ('a' + i)).append(" turns 1 in 1;");
        }
        TideDiscs x = new TideDiscs();
        Rig.fine("six waves", x, Rig.machine(x, 0, six.toString()), 6);
        Rig.badMachine(six + "wave g", 6, six.length() + 5);
        Rig.badMachine(six + "wave f", 3, six.length() + 5);
        Rig.badMachine(six + "wave of", 2, six.length() + 5);
        StringBuilder ten = new StringBuilder();
        for (int i = 0; i < 10; i++) {
            ten.append("box ").append(i).append(" of ").append(10 + i).append(";");
        }
        Rig.fine("ten kinds", x, Rig.machine(x, 0, ten.toString()), 0);
        Rig.fine("ten kinds", x, x.told(0, 1), 10);
        Rig.badMachine(ten + "box 10 of 10;", 6, ten.length());
        Rig.badMachine("box 0 of 10; box 1 of 010;", 6, 22);
    }

    private static void fault() {
        Rig.promise(11);
        TideDiscs x = new TideDiscs();
        Rig.due("ahead of any", x.fault(0), NONE);
        Rig.due("ahead of any", x.fault(1), NONE);
        Rig.machine(x, 0, "zero;");
        Rig.due("kind", x.fault(0), 2);
        Rig.due("place", x.fault(1), 4);
        Rig.due("for others", x.fault(2), NONE);
        Rig.due("for others", x.fault(-1), NONE);
        x.machine(2, 0);
        x.orders(-1);
        x.told(0, 9);
        Rig.due("2 and 5 leave it", x.fault(0), 2);
        Rig.due("2 and 5 leave it", x.fault(1), 4);
        Rig.orders(x, "mark");
        Rig.due("of orders", x.fault(1), 4);
        Rig.orders(x, "mark;");
        Rig.due("without one", x.fault(0), 0);
        Rig.due("without one", x.fault(1), NONE);
        Rig.machine(x, 0, "#");
        Rig.due("kind", x.fault(0), 1);
        Rig.machine(x, 1, "");
        Rig.due("without one", x.fault(0), 0);
        Rig.due("fault() has no status", x.status(), 0);
    }

    private static void told() {
        Rig.promise(12);
        TideDiscs x = Rig.with(WAVE + "; box 0 of 5; box 3 of 6; slack 7; zero 8;");
        Rig.fine("waves", x, x.told(0, 0), 1);
        Rig.fine("kinds", x, x.told(0, 1), 2);
        Rig.fine("slack", x, x.told(0, 2), 7);
        Rig.fine("zero", x, x.told(0, 3), 8);
        Rig.refused("what 4", x, x.told(0, 4), 5);
        Rig.refused("what -1", x, x.told(0, -1), 5);
        Rig.refused("no machine", x, x.told(2, 9), 2);
        Rig.refused("no machine", x, x.told(-1, 0), 2);
    }

    private static void wave() {
        Rig.promise(13);
        TideDiscs x = Rig.with("wave a turns 3 in 50 size 7 at 5 train 6 7 8 9; wave b turns 1 in 2 train 10 11; wave c turns 1 in 2;");
        int[] a = {3, 50, 7, 5, 6, 7, 8, 9};
        int[] b = {1, 2, 0, 0, 10, 11, 1, 1};
        for (int what = 0; what < 8; what++) {
            Rig.fine("a " + what, x, x.wave(0, 0, what), a[what]);
            Rig.fine("b " + what, x, x.wave(0, 1, what), b[what]);
        }
        Rig.fine("c has no size", x, x.wave(0, 2, 2), 0);
        for (int what = 4; what < 8; what++) {
            Rig.refused("c " + what, x, x.wave(0, 2, what), 8);
        }
        Rig.refused("what 8", x, x.wave(0, 2, 8), 5);
        Rig.refused("what -1", x, x.wave(0, 2, -1), 5);
        Rig.refused("no wave", x, x.wave(0, 3, 9), 2);
        Rig.refused("no wave", x, x.wave(0, -1, 0), 2);
        Rig.refused("no machine", x, x.wave(2, 0, 0), 2);
        Rig.refused("no wave there", x, x.wave(1, 0, 0), 2);
    }

    private static void set() {
        Rig.promise(14);
        TideDiscs x = Rig.with(WAVE + " size 5 at 5 train 10 20;");
        Rig.fine("set", x, x.set(0, 0, 99, 23));
        Rig.fine("size", x, x.wave(0, 0, 2), 99);
        Rig.fine("at", x, x.wave(0, 0, 3), 23);
        Rig.fine("height", x, x.height(0, 0, false), 99 * 12);
        Rig.refused("size", x, x.set(0, 0, 100, 0), 5);
        Rig.refused("size", x, x.set(0, 0, -1, 0), 5);
        Rig.refused("at", x, x.set(0, 0, 0, 24), 5);
        Rig.refused("at", x, x.set(0, 0, 0, -1), 5);
        Rig.refused("no wave", x, x.set(0, 1, 100, 0), 2);
        Rig.refused("no machine", x, x.set(2, 0, 1, 0), 2);
        Rig.fine("size as it was", x, x.wave(0, 0, 2), 99);
        Rig.fine("at as it was", x, x.wave(0, 0, 3), 23);
        Rig.fine("least", x, x.set(0, 0, 0, 0));
        Rig.fine("height", x, x.height(0, 0, false), 0);
    }
}
