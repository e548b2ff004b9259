/** The edges of promises 9 to 14: the tape, MACHINES as texts, FAULTS, what is told of a MACHINE. */
public final class TextEdgesTest {
    private static final int NONE = TideDiscs.NONE;
    private static final int LEAST = Integer.MIN_VALUE;
    private static final int MOST = Integer.MAX_VALUE;
    private static final String WAVE = "wave m turns 1 in 24";

    public static void main(String[] args) {
        tapeInOrder();
        tapeFull();
        textFull();
        textEmpty();
        machineNumbers();
        machineLengths();
        machineKeepsOrEmptiesTheTape();
        machineFaulty();
        blanks();
        beginnings();
        insides();
        digits();
        names();
        keptWords();
        nearlyWords();
        textEnds();
        cutShort();
        firstFault();
        leastKind();
        sameName();
        numbersOfAWave();
        numbersOfATrain();
        numbersOfABox();
        numbersOfSlackAndZero();
        toldTwice();
        sixWaves();
        tenKinds();
        fullMachine();
        withoutSettings();
        nothingLeftOfThatAhead();
        faultTold();
        toldEdges();
        waveEdges();
        setEdges();
        Rig.end();
    }

    /** A text with a FAULT of this kind where the hat stands. */
    private static void bad(int kind, String hatted) {
        int place = hatted.indexOf('^');
        String text = hatted.substring(0, place) + hatted.substring(place + 1);
        TideDiscs x = Rig.with("wave old turns 5 in 6 size 7 at 8 train 9 10; box 1 of 11; slack 12; zero 13;");
        Rig.refused("machine [" + text + "]", x, Rig.machine(x, 0, text), 10);
        Rig.due("kind of [" + text + "]", x.fault(0), kind);
        Rig.due("place of [" + text + "]", x.fault(1), place);
        Rig.refused("the tape is empty", x, x.machine(0, 1), 5);
        int[] told = {1, 1, 12, 13};
        for (int what = 0; what < 4; what++) {
            Rig.fine("the old one stays", x, x.told(0, what), told[what]);
        }
        int[] wave = {5, 6, 7, 8, 9, 10, 1, 1};
        for (int what = 0; what < 8; what++) {
            Rig.fine("the old wave stays", x, x.wave(0, 0, what), wave[what]);
        }
    }

    private static TideDiscs good(String text, int waves) {
        TideDiscs x = new TideDiscs();
        Rig.fine("machine [" + text + "]", x, Rig.machine(x, 0, text), waves);
        Rig.due("no fault", x.fault(0), 0);
        Rig.due("no place", x.fault(1), NONE);
        return x;
    }

    // ---- promise 9

    private static void tapeInOrder() {
        Rig.says("Twenty bytes come behind those on the tape, the highest of each int first: how many it has");
        TideDiscs x = new TideDiscs();
        // "zero" " 98;" "slac" "k 76" ";   "
        Rig.due("twenty", x.feed(0x7a65726f, 0x2039383b, 0x736c6163, 0x6b203736, 0x3b202020), 20);
        Rig.due("forty", x.feed(0x626f7820, 0x31206f66, 0x20353b20, 0x20202020, 0x20202020), 40);
        Rig.fine("machine", x, x.machine(0, 40), 0);
        Rig.fine("zero", x, x.told(0, 3), 98);
        Rig.fine("slack", x, x.told(0, 2), 76);
        Rig.fine("box", x, x.told(0, 1), 1);
        // a byte above 127 is one byte, in any of the four
        for (int i = 0; i < 4; i++) {
            x.feed(0x20202020 | 0xff << 8 * i, 0, 0, 0, 0);
            Rig.refused("a byte of 255", x, x.machine(0, 20), 10);
            Rig.due("kind", x.fault(0), 1);
            Rig.due("place", x.fault(1), 3 - i);
        }
    }

    private static void tapeFull() {
        Rig.says("NONE if there would be more than 600.");
        TideDiscs x = new TideDiscs();
        for (int i = 1; i <= 29; i++) {
            Rig.due("feed " + i, x.feed(0x20202020, 0x20202020, 0x20202020, 0x20202020, 0x20202020), 20 * i);
        }
        // "zero 5;" comes as the very last
        Rig.due("the last twenty", x.feed(0x20202020, 0x20202020, 0x20202020, 0x207a6572, 0x6f20353b), 600);
        Rig.due("one too many", x.feed(0, 0, 0, 0, 0), NONE);
        Rig.due("again", x.feed(-1, -1, -1, -1, -1), NONE);
        Rig.refused("601 bytes", x, x.machine(0, 601), 5);
        Rig.fine("the tape is as it was", x, x.machine(0, 600), 0);
        Rig.fine("to its last byte", x, x.told(0, 3), 5);
        Rig.due("there is room again", x.feed(0, 0, 0, 0, 0), 20);
    }

    // ---- promise 10

    private static void textFull() {
        Rig.says("MACHINES 0 and 1 are TEXTS of at most 600 bytes each.");
        for (int m = 0; m < 2; m++) {
            TideDiscs x = new TideDiscs();
            String text = "\n".repeat(580) + WAVE.substring(0, 12) + "7 in 8;";
            text = " ".repeat(600 - text.length()) + text;
            Rig.fine("600 bytes", x, Rig.machine(x, m, text), 1);
            Rig.fine("turns", x, x.wave(m, 0, 0), 7);
            Rig.fine("hours", x, x.wave(m, 0, 1), 8);
            Rig.refused("no end", x, Rig.machine(x, m, text.substring(0, 599) + " "), 10);
            Rig.due("kind", x.fault(0), 2);
            Rig.due("place", x.fault(1), 600);
            Rig.refused("a word up to the end", x, Rig.machine(x, m, text.substring(0, 599) + "s"), 10);
            Rig.due("place", x.fault(1), 599);
            Rig.refused("a number up to the end", x, Rig.machine(x, m, text.substring(0, 599) + "0"), 10);
            Rig.due("place", x.fault(1), 600);
        }
    }

    private static void textEmpty() {
        Rig.says("MACHINE: {PART}.");
        for (int m = 0; m < 2; m++) {
            TideDiscs x = Rig.with(WAVE + " size 5; zero 3;");
            Rig.machine(x, 1, WAVE + " size 5; zero 3;");
            Rig.feed(x, "zero 9;");
            Rig.fine("none of twenty bytes", x, x.machine(m, 0), 0);
            Rig.due("no fault", x.fault(0), 0);
            Rig.refused("the tape is empty", x, x.machine(m, 1), 5);
            Rig.fine("no wave", x, x.told(m, 0), 0);
            Rig.fine("no zero", x, x.told(m, 3), 0);
            Rig.fine("the other one stays", x, x.told(1 - m, 0), 1);
            Rig.fine("none of no bytes", x, x.machine(1 - m, 0), 0);
            Rig.fine("no wave", x, x.told(1 - m, 0), 0);
        }
        good(" ", 0);
        good("\n", 0);
        good(" \n \n", 0);
    }

    private static void machineNumbers() {
        Rig.says("are a MACHINE: how many WAVES (2; 5; 10: the old one stays).");
        for (int m : new int[] {-1, 2, LEAST, MOST}) {
            Furnished.none(2, "machine " + m, x -> x.machine(m, 20));
            Furnished.none(2, "machine " + m + " ahead of 5", x -> x.machine(m, 21));
            Furnished.none(2, "machine " + m + " ahead of 10", x -> x.machine(m, 5));
        }
    }

    private static void machineLengths() {
        for (int n : new int[] {-1, 21, 600, 601, LEAST, MOST}) {
            Furnished.none(5, n + " bytes of twenty", x -> x.machine(0, n));
            Furnished.none(5, n + " bytes of twenty", x -> x.machine(1, n));
        }
        for (int n = 0; n <= 20; n++) {
            TideDiscs x = new TideDiscs();
            Rig.feed(x, " ".repeat(20));
            Rig.fine(n + " bytes of twenty", x, x.machine(0, n), 0);
        }
    }

    private static void machineKeepsOrEmptiesTheTape() {
        Rig.says("The first n bytes of the tape (which is empty then, but for 2 and 5)");
        TideDiscs x = new TideDiscs();
        Rig.feed(x, "zero 5; zero 6;");
        Rig.refused("2", x, x.machine(2, 7), 2);
        Rig.refused("5", x, x.machine(0, 21), 5);
        Rig.fine("the first seven", x, x.machine(0, 7), 0);
        Rig.fine("zero", x, x.told(0, 3), 5);
        Rig.refused("what was behind them is gone, too", x, x.machine(0, 1), 5);
        Rig.due("the tape is empty", x.feed(0, 0, 0, 0, 0), 20);
        Rig.refused("a fault", x, x.machine(0, 1), 10);
        Rig.due("the tape is empty", x.feed(0, 0, 0, 0, 0), 20);
    }

    private static void machineFaulty() {
        Rig.says("(but machine(), orders() with 10 the tape, and what fault() tells)");
        // the tape of a furnished object is "slack 77; zero 88;  "
        Furnished.faulty("machine 0", x -> x.machine(0, 5), 2, 5);
        Furnished.faulty("machine 1", x -> x.machine(1, 8), 2, 8);
        Furnished.faulty("machine 0", x -> x.machine(0, 17), 2, 17);
        Furnished.faulty("orders", x -> x.orders(20), 2, 0);
    }

    // ---- TOKENS

    private static void blanks() {
        Rig.says("TOKENS, as long as they go, between them blanks (10, 32)");
        for (int b = 0; b < 256; b++) {
            char c = (char) b;
            if (b == 10 || b == 32) {
                TideDiscs x = good("zero" + c + "5;", 0);
                Rig.fine("a blank", x, x.told(0, 3), 5);
            } else if (c >= '0' && c <= '9') {
                TideDiscs x = good("zero" + c + "5;", 0);
                Rig.fine("a digit more", x, x.told(0, 3), 10 * (c - '0') + 5);
            } else if (c >= 'a' && c <= 'z') {
                bad(2, "^zero" + c + "5;");
            } else {
                bad(c == ';' ? 2 : 1, "zero^" + c + "5;");
            }
        }
        TideDiscs x = good("wave m turns 1in 2size 3at 4train 5 6 7 8;box 1of 5;slack 9;zero 8;", 1);
        Rig.fine("no blanks between unlike ones", x, x.wave(0, 0, 7), 8);
        x = good("\n\n wave\nm  \n turns \n1\nin\n2\n;\n \n", 1);
        Rig.fine("many blanks", x, x.wave(0, 0, 1), 2);
        bad(2, "zero 1 ^2;");
        bad(2, "^ze ro 1;");
        bad(2, "^zeroslack 1;");
    }

    private static void beginnings() {
        Rig.says("1 no TOKEN begins so");
        for (int b = 0; b < 256; b++) {
            char c = (char) b;
            boolean token = c >= 'a' && c <= 'z' || c >= '0' && c <= '9' || c == ';';
            if (b == 10 || b == 32) {
                good("" + c, 0);
            } else {
                bad(token ? 2 : 1, "^" + c);
                bad(token ? 2 : 1, "zero 3; ^" + c);
                bad(token ? 2 : 1, "zero ^" + (token && c != ';' ? "x" : "" + c));
            }
        }
    }

    private static void insides() {
        Rig.says("WORDS (small letters), NUMBERS (1 to 4 digits), the SIGN ;");
        bad(1, "^Zero 5;");
        bad(2, "^zerO 5;");
        bad(1, "zero ^-5;");
        bad(1, "zero ^+5;");
        bad(1, "zero 5^.5;");
        bad(1, "zero 5^,");
        bad(1, "zero 5^:");
        bad(1, "zero 5^<");
        bad(1, "zero ^`;");
        bad(1, "zero ^{;");
        bad(1, "zero ^/;");
        bad(1, "wave ^_m turns 1 in 24;");
        bad(1, "wave m^_ turns 1 in 24;");
        bad(2, "wave m^1 turns 1 in 24;");
        bad(1, "wave m^\u0000 turns");
    }

    private static void digits() {
        Rig.says("(a NUMBER of 5 digits and more: at its first)");
        TideDiscs x = good("zero 0099; slack 0000; box 0009 of 0200; wave m turns 9999 in 0001;", 1);
        Rig.fine("four digits", x, x.told(0, 3), 99);
        Rig.fine("four digits", x, x.told(0, 2), 0);
        Rig.fine("four digits", x, x.wave(0, 0, 0), 9999);
        Rig.fine("four digits", x, x.wave(0, 0, 1), 1);
        bad(1, "zero ^00099;");
        bad(1, "zero ^10000;");
        bad(1, "zero ^123456;");
        bad(1, "zero ^4294967296;");
        bad(1, "zero ^000000000000000000000000000000005;");
        bad(1, "^12345");
        bad(2, "^1234");
        bad(1, "wave m turns ^10000 in 24;");
        bad(1, "wave m turns 1 in ^10000;");
        bad(1, WAVE + " train 10 20 ^10000");
        bad(1, WAVE + " train 10 20 30 ^10000");
        bad(1, WAVE + " train 10 20 30 40 ^10000");
        bad(1, "zero ^12345a;");
    }

    private static void names() {
        Rig.says("NAME: a WORD of 1 to 8 letters that is none of wave, turns, in, size, at, train, box, of, slack, zero.");
        for (char c = 'a'; c <= 'z'; c++) {
            good("wave " + c + " turns 1 in 24;", 1);
            good("wave " + ("" + c).repeat(8) + " turns 1 in 24;", 1);
            bad(2, "wave ^" + ("" + c).repeat(9) + " turns 1 in 24;");
        }
        bad(2, "wave ^" + "ab".repeat(20) + " turns 1 in 24;");
        bad(2, "wave ^turns 1 in 24;");
        bad(2, "wave ^5 turns 1 in 24;");
        bad(2, "wave ^; turns 1 in 24;");
        for (String word : "waves turn i inn siz sizes a att trains bo boxes o off slac zer zeros less go mark end".split(" ")) {
            good("wave " + word + " turns 1 in 24;", 1);
        }
    }

    private static void keptWords() {
        for (String word : "wave turns in size at train box of slack zero".split(" ")) {
            bad(2, "wave ^" + word + " turns 1 in 24;");
            if (!word.equals("wave") && !word.equals("box") && !word.equals("slack") && !word.equals("zero")) {
                bad(2, "^" + word + " 5;");
            }
        }
    }

    private static void nearlyWords() {
        Rig.says("PART: wave NAME turns NUMBER in NUMBER {SETTING} ; or box NUMBER of NUMBER ; or slack NUMBER ; or zero NUMBER ;");
        String[] texts = {"^wave m turns 1 in 24;", "wave m ^turns 1 in 24;", "wave m turns 1 ^in 24;", WAVE + " ^size 5;", WAVE + " ^at 5;",
            WAVE + " ^train 5 5;", "^box 1 of 5;", "box 1 ^of 5;", "^slack 5;", "^zero 5;"};
        for (String text : texts) {
            int from = text.indexOf('^') + 1;
            int to = text.indexOf(' ', from);
            for (int i = from; i < to; i++) {
                // another letter, a letter less, a letter more
                bad(2, text.substring(0, i) + (text.charAt(i) == 'q' ? 'x' : 'q') + text.substring(i + 1));
                bad(2, text.substring(0, i) + 'q' + text.substring(i));
                if (to - from > 1) {
                    bad(2, text.substring(0, i) + text.substring(i + 1));
                }
            }
            bad(2, text.substring(0, to) + 's' + text.substring(to));
        }
    }

    // ---- FAULTS

    private static void textEnds() {
        Rig.says("2 it can't stand there (the end: the text's length).");
        String[] tokens = (WAVE + " size 5 at 3 train 10 20").split(" ");
        StringBuilder text = new StringBuilder();
        for (String token : tokens) {
            text.append(token);
            bad(2, text + "^");
            bad(2, text + " ^");
            bad(2, text + "\n\n ^");
            text.append(' ');
        }
        bad(2, text + "30^");
        bad(2, text + "30 40^");
        good(text + "30 40;", 1);
        for (String start : new String[] {"box", "box 1", "box 1 of", "box 1 of 5", "slack", "slack 5", "zero", "zero 5"}) {
            bad(2, start + "^");
            bad(2, WAVE + "; " + start + "  ^");
        }
        // the text has n bytes, however many the tape has
        TideDiscs x = new TideDiscs();
        Rig.feed(x, "zero 12; slack 34; box 1 of 5;");
        Rig.refused("six of forty", x, x.machine(0, 6), 10);
        Rig.due("kind", x.fault(0), 2);
        Rig.due("place", x.fault(1), 6);
        Rig.feed(x, "zero 12345;");
        Rig.refused("nine of twenty", x, x.machine(0, 9), 10);
        Rig.due("a number of four digits, not to be", x.fault(0), 4);
    }

    private static void cutShort() {
        Rig.says("PART: wave NAME turns NUMBER in NUMBER {SETTING} ; or box NUMBER of NUMBER ; or slack NUMBER ; or zero NUMBER ;");
        bad(2, "wave m ^in 24;");
        bad(2, "wave m ^1 in 24;");
        bad(2, "wave m turns ^in 24;");
        bad(2, "wave m turns ^;");
        bad(2, "wave m turns 1 ^24;");
        bad(2, "wave m turns 1 ^of 24;");
        bad(2, "wave m turns 1 ^;");
        bad(2, "wave m turns 1 in ^;");
        bad(2, "wave m turns 1 in ^size 5;");
        bad(2, WAVE + " ^5;");
        bad(2, WAVE + " ^turns 5;");
        bad(2, WAVE + " ^wave n turns 1 in 24;");
        bad(2, WAVE + " ^slack 5;");
        bad(2, WAVE + " size ^at 5;");
        bad(2, WAVE + " size ^;");
        bad(2, WAVE + " size 5 ^5;");
        bad(2, WAVE + " at ^;");
        bad(2, WAVE + " at 5 ^6;");
        bad(2, WAVE + " train ^;");
        bad(2, WAVE + " train 10 ^;");
        bad(2, WAVE + " train 10 ^size 5;");
        bad(2, WAVE + " train 10 20 30 ^;");
        bad(2, WAVE + " train 10 20 30 ^at 5;");
        bad(2, WAVE + " train 10 20 30 40 ^50;");
        bad(2, "box ^of 5;");
        bad(2, "box ^;");
        bad(2, "box 1 ^5;");
        bad(2, "box 1 ^in 5;");
        bad(2, "box 1 of ^;");
        bad(2, "box 1 of ^of");
        bad(2, "box 1 of 5 ^6;");
        bad(2, "slack ^;");
        bad(2, "slack ^zero");
        bad(2, "slack 5 ^5;");
        bad(2, "zero ^;");
        bad(2, "zero 5 ^zero 6;");
        bad(2, "zero 5;^;");
        bad(2, "^5;");
        bad(2, "^;");
        bad(2, "^m turns 1 in 24;");
    }

    private static void firstFault() {
        Rig.says("FAULTS, the first along the text");
        bad(5, "slack 1; ^slack 2; #");
        bad(4, "zero ^100; #");
        bad(4, "zero ^100 100;");
        bad(3, WAVE + "; wave ^m #");
        bad(2, "zero ^zero 12345 #");
        bad(6, "box 1 of 5; box 2 of ^5 #");
        bad(1, "zero 5^# zero 100; zero 5;");
    }

    private static void leastKind() {
        Rig.says("(of one TOKEN the least kind)");
        String six = waves(6);
        // a seventh wave by a NAME that is there: 3 ahead of 6; no NAME at all: 2 ahead of 6; no TOKEN: 1
        bad(6, six + "wave ^z turns 1 in 1;");
        bad(3, six + "wave ^a turns 1 in 1;");
        bad(2, six + "wave ^zero turns 1 in 1;");
        bad(1, six + "wave ^# turns 1 in 1;");
        // where another TOKEN should stand, and none begins so
        bad(1, "zero ^12345;");
        bad(1, "^12345 zero");
        bad(1, "zero ^#");
        // a NUMBER that can't be is no KIND that is there
        bad(4, "box 1 of 5; box 1 of ^4;");
        // an 11th box is one at its WORD, whatever stands behind it
        bad(6, boxes(10) + "^box 10 of 5;");
        bad(6, boxes(10) + "^box");
    }

    private static String waves(int many) {
        StringBuilder s = new StringBuilder();
        for (int i = 0; i < many; i++) {
            s.append("wave ").append((char) ('a' + i)).append(" turns 1 in 1;");
        }
        return s.toString();
    }

    private static String boxes(int many) {
        StringBuilder s = new StringBuilder();
        for (int i = 0; i < many; i++) {
            s.append("box ").append(i % 10).append(" of ").append(5 + i).append(";");
        }
        return s.toString();
    }

    private static void sameName() {
        Rig.says("3 a NAME of a wave there already.");
        for (int i = 0; i < 5; i++) {
            bad(3, waves(5) + "wave ^" + (char) ('a' + i) + " turns 1 in 1;");
        }
        bad(3, "wave abcdefgh turns 1 in 1; wave ^abcdefgh turns 2 in 2;");
        String[][] unlike = {{"abcdefgh", "abcdefgi"}, {"abcdefgh", "bbcdefgh"}, {"abcdefgh", "abcdefg"}, {"a", "aa"},
            {"aaaaaaaa", "aaaaaaa"}, {"ab", "ba"}, {"az", "b"}, {"zz", "zzz"}, {"aaz", "aba"}, {"zzzzzzzz", "yzzzzzzz"}};
        for (String[] two : unlike) {
            good("wave " + two[0] + " turns 1 in 1; wave " + two[1] + " turns 2 in 2;", 2);
            good("wave " + two[1] + " turns 1 in 1; wave " + two[0] + " turns 2 in 2;", 2);
        }
        // names of a MACHINE ahead, or of the other one, are none of this one
        TideDiscs x = good(WAVE + ";", 1);
        Rig.fine("anew", x, Rig.machine(x, 0, WAVE + ";"), 1);
        Rig.fine("the other one", x, Rig.machine(x, 1, WAVE + ";"), 1);
    }

    private static void numbersOfAWave() {
        Rig.says("TURNS (1 to 9,999) in so many HOURS (1 to 9,999), a SIZE (0 to 99; 0 without), AT (0 to 23: its PLACE at HOUR 0;");
        TideDiscs x = good("wave a turns 1 in 1 size 0 at 0; wave b turns 9999 in 9999 size 99 at 23;", 2);
        int[][] wants = {{1, 1, 0, 0}, {9999, 9999, 99, 23}};
        for (int w = 0; w < 2; w++) {
            for (int what = 0; what < 4; what++) {
                Rig.fine("wave " + w, x, x.wave(0, w, what), wants[w][what]);
            }
        }
        Rig.says("4 a NUMBER that can't be.");
        bad(4, "wave m turns ^0 in 24;");
        bad(4, "wave m turns ^0000 in 24;");
        bad(4, "wave m turns 1 in ^0;");
        bad(4, WAVE + " size ^100;");
        bad(4, WAVE + " size ^9999;");
        bad(4, WAVE + " at ^24;");
        bad(4, WAVE + " at ^9999;");
        bad(4, WAVE + " at 5 size ^100;");
        bad(4, WAVE + " size 5 at ^24;");
    }

    private static void numbersOfATrain() {
        Rig.says("each the teeth of the driving one, then of the driven one (5 to 200 each); without one the second couple is 1 and 1.");
        String[] fine = {"5 5", "200 200", "5 200", "200 5"};
        for (String one : fine) {
            TideDiscs x = good(WAVE + " train " + one + ";", 1);
            Rig.fine("wheel 0", x, x.wave(0, 0, 4), Integer.parseInt(one.split(" ")[0]));
            Rig.fine("wheel 1", x, x.wave(0, 0, 5), Integer.parseInt(one.split(" ")[1]));
            Rig.fine("wheel 2", x, x.wave(0, 0, 6), 1);
            Rig.fine("wheel 3", x, x.wave(0, 0, 7), 1);
            for (String other : fine) {
                x = good(WAVE + " train " + one + " " + other + ";", 1);
                Rig.fine("wheel 2", x, x.wave(0, 0, 6), Integer.parseInt(other.split(" ")[0]));
                Rig.fine("wheel 3", x, x.wave(0, 0, 7), Integer.parseInt(other.split(" ")[1]));
            }
        }
        for (String teeth : new String[] {"0", "1", "4", "201", "9999"}) {
            bad(4, WAVE + " train ^" + teeth + " 10;");
            bad(4, WAVE + " train 10 ^" + teeth + ";");
            bad(4, WAVE + " train 10 20 ^" + teeth + " 30;");
            bad(4, WAVE + " train 10 20 30 ^" + teeth + ";");
        }
    }

    private static void numbersOfABox() {
        Rig.says("BOX: so many wheels (how many: 0 to 9) of so many teeth (5 to 200), at most 10 KINDS, numbered as they stand.");
        TideDiscs x = good("box 0 of 5; box 9 of 200;", 0);
        Rig.fine("kinds", x, x.told(0, 1), 2);
        bad(4, "box ^10 of 5;");
        bad(4, "box ^9999 of 5;");
        bad(4, "box 1 of ^4;");
        bad(4, "box 1 of ^0;");
        bad(4, "box 1 of ^201;");
        bad(4, "box 1 of ^9999;");
    }

    private static void numbersOfSlackAndZero() {
        Rig.says("SLACK (0 to 99; 0 without), ZERO (0 to 99; 0 without).");
        for (int n : new int[] {0, 1, 98, 99}) {
            TideDiscs x = good("slack " + n + ";", 0);
            Rig.fine("slack", x, x.told(0, 2), n);
            Rig.fine("zero", x, x.told(0, 3), 0);
            x = good("zero " + n + ";", 0);
            Rig.fine("zero", x, x.told(0, 3), n);
            Rig.fine("slack", x, x.told(0, 2), 0);
            Rig.fine("height", x, x.height(0, 0, false), 12 * n);
        }
        bad(4, "slack ^100;");
        bad(4, "slack ^9999;");
        bad(4, "zero ^100;");
        bad(4, "zero ^9999;");
    }

    private static void toldTwice() {
        Rig.says("5 a SETTING that its wave has already, slack, zero told already (at that WORD).");
        bad(5, WAVE + " size 0 ^size 0;");
        bad(5, WAVE + " at 0 ^at 0;");
        bad(5, WAVE + " train 5 5 ^train 5 5;");
        bad(5, WAVE + " train 5 5 5 5 ^train 5 5;");
        bad(5, WAVE + " size 1 at 2 train 5 5 ^size 1;");
        bad(5, WAVE + " size 1 at 2 train 5 5 ^at 2;");
        bad(5, WAVE + " size 1 at 2 train 5 5 ^train");
        bad(5, WAVE + " size 1 ^size 100;");
        bad(5, "slack 0; ^slack 0;");
        bad(5, "slack 5; zero 5; " + WAVE + "; ^slack");
        bad(5, "zero 0; ^zero 0;");
        bad(5, "zero 5; slack 5; box 1 of 5; ^zero 100;");
        good("wave a turns 1 in 1 size 1 at 1 train 5 5; wave b turns 1 in 1 size 1 at 1 train 5 5;", 2);
        for (String order : new String[] {"size 1 at 2 train 5 6", "at 2 train 5 6 size 1", "train 5 6 size 1 at 2"}) {
            TideDiscs x = good(WAVE + " " + order + ";", 1);
            Rig.fine("size", x, x.wave(0, 0, 2), 1);
            Rig.fine("at", x, x.wave(0, 0, 3), 2);
            Rig.fine("train", x, x.wave(0, 0, 5), 6);
        }
        // told in a MACHINE ahead, they may be told again
        TideDiscs x = good("slack 1; zero 1;", 0);
        Rig.fine("again", x, Rig.machine(x, 0, "slack 2; zero 2;"), 0);
        Rig.fine("and again", x, Rig.machine(x, 0, "slack 3; zero 3;"), 0);
    }

    private static void sixWaves() {
        Rig.says("6 a seventh wave (at its NAME)");
        for (int many = 0; many <= 6; many++) {
            TideDiscs x = good(waves(many), many);
            Rig.fine("waves", x, x.told(0, 0), many);
        }
        bad(6, waves(6) + "wave ^g turns 1 in 1;");
        bad(6, waves(6) + "zero 5; wave ^g");
        good(waves(3) + "zero 5;" + waves(6).substring(waves(3).length()), 6);
    }

    private static void tenKinds() {
        Rig.says("an 11th box (at that WORD), a KIND whose teeth are those of one ahead (at its second NUMBER: box HOW MANY of TEETH)");
        for (int many = 0; many <= 10; many++) {
            TideDiscs x = good(boxes(many), 0);
            Rig.fine("kinds", x, x.told(0, 1), many);
        }
        bad(6, boxes(10) + "^box 1 of 100;");
        bad(6, boxes(10) + "^box 1 of 5;");
        for (int i = 0; i < 9; i++) {
            bad(6, boxes(9) + "box 1 of ^" + (5 + i) + ";");
        }
        bad(6, "box 0 of 5; box 0 of ^5;");
        bad(6, "box 0 of 5; box 1 of ^0005;");
        bad(6, "box 1 of 200; box 1 of 199; box 1 of ^200;");
        good("box 1 of 5; box 1 of 6;", 0);
        // five waves with the same name as a KIND ahead, or KINDS of the MACHINE ahead, are no matter
        TideDiscs x = good("box 1 of 5;", 0);
        Rig.fine("again", x, Rig.machine(x, 0, "box 1 of 5;"), 0);
        Rig.fine("one kind", x, x.told(0, 1), 1);
        Rig.fine("and again", x, Rig.machine(x, 0, boxes(10)), 0);
        Rig.fine("ten kinds", x, x.told(0, 1), 10);
    }

    private static String fullText() {
        StringBuilder s = new StringBuilder();
        for (int i = 0; i < 6; i++) {
            s.append("wave ").append((char) ('a' + i)).append(" turns 2 in 3 size 9").append(i).append(" at 1").append(i)
                .append(" train 19").append(i).append(" 5 200 6;");
        }
        return s + boxes(10).replace("box 0", "box 9") + "slack 99;zero 99;";
    }

    private static void fullMachine() {
        Rig.says("WAVES, at most 6, numbered as they stand");
        TideDiscs x = good(fullText(), 6);
        for (int w = 0; w < 6; w++) {
            int[] wants = {2, 3, 90 + w, 10 + w, 190 + w, 5, 200, 6};
            for (int what = 0; what < 8; what++) {
                Rig.fine("wave " + w, x, x.wave(0, w, what), wants[what]);
            }
        }
        Rig.fine("kinds", x, x.told(0, 1), 10);
        Rig.fine("slack", x, x.told(0, 2), 99);
        Rig.fine("zero", x, x.told(0, 3), 99);
        Rig.refused("no seventh", x, x.wave(0, 6, 0), 2);
    }

    private static void bare(TideDiscs x, int m) {
        Rig.fine("slack 0 without", x, x.told(m, 2), 0);
        Rig.fine("zero 0 without", x, x.told(m, 3), 0);
        Rig.fine("no kinds", x, x.told(m, 1), 0);
        for (int w = 0; w < x.told(m, 0); w++) {
            Rig.fine("size 0 without", x, x.wave(m, w, 2), 0);
            Rig.fine("at 0 without", x, x.wave(m, w, 3), 0);
            for (int what = 4; what < 8; what++) {
                Rig.refused("no train", x, x.wave(m, w, what), 8);
            }
            Rig.fine("its place", x, x.place(m, w, 0, true), 0);
        }
        Rig.fine("height", x, x.height(m, 0, true), 0);
    }

    private static void withoutSettings() {
        Rig.says("SLACK (0 to 99; 0 without), ZERO (0 to 99; 0 without)");
        bare(good(waves(6), 6), 0);
    }

    private static void nothingLeftOfThatAhead() {
        Rig.says("A MACHINE that is taken is there in place of that ahead.");
        for (int m = 0; m < 2; m++) {
            // machines come in turn to rows that are used again
            for (int full = 1; full <= 3; full++) {
                TideDiscs x = new TideDiscs();
                for (int i = 0; i < full; i++) {
                    Rig.fine("full", x, Rig.machine(x, m, fullText()), 6);
                }
                Rig.fine("bare", x, Rig.machine(x, m, waves(3)), 3);
                bare(x, m);
                Rig.refused("faulty", x, Rig.machine(x, m, fullText() + "#"), 10);
                bare(x, m);
                Rig.fine("bare behind a faulty one", x, Rig.machine(x, m, waves(6)), 6);
                bare(x, m);
            }
        }
        asIfItWereTheFirst();
        // one couple in place of two
        TideDiscs x = good(WAVE + " train 5 6 7 8;", 1);
        for (int i = 0; i < 2; i++) {
            Rig.fine("one couple", x, Rig.machine(x, 0, WAVE + " train 9 10;"), 1);
            int[] wants = {9, 10, 1, 1};
            for (int k = 0; k < 4; k++) {
                Rig.fine("wheel " + k, x, x.wave(0, 0, 4 + k), wants[k]);
            }
            Rig.fine("it turns by one couple", x, x.place(0, 0, 10, true), 9);
            Rig.refused("no wheel 2", x, x.worn(0, 0, 2, 24), 8);
        }
    }

    /** A small MACHINE behind full ones tells what it tells in a new object. */
    private static void asIfItWereTheFirst() {
        String small = "wave a turns 1 in 24 size 36 train 10 10; box 1 of 20; box 1 of 10;";
        TideDiscs x = new TideDiscs();
        TideDiscs y = new TideDiscs();
        for (int m = 0; m < 2; m++) {
            for (int i = 0; i < 3; i++) {
                Rig.fine("full", x, Rig.machine(x, m, fullText()), 6);
            }
            for (int i = 0; i < 2; i++) {
                Rig.fine("small", x, Rig.machine(x, m, small), 1);
                Rig.fine("small", y, Rig.machine(y, m, small), 1);
            }
        }
        for (TideDiscs z : new TideDiscs[] {x, y}) {
            Rig.fill(z, 0, 100, 107, 113, 120, 126, 131);
            Rig.fill(z, 1, -20, 30, -10, 36, 12, -36);
            Rig.orders(z, "until above 400;mark;until high;mark;read;until above 9999;");
        }
        for (int m = 0; m < 2; m++) {
            for (int hour = 0; hour < 30; hour += 7) {
                Rig.due("place", x.place(m, 0, hour, true), y.place(m, 0, hour, true));
                Rig.due("height", x.height(m, hour, true), y.height(m, hour, true));
                Rig.due("height", x.height(m, hour, false), y.height(m, hour, false));
                Rig.due("pointer", x.pointer(m, 0, hour), y.pointer(m, 0, hour));
                Rig.due("bounds", x.bounds(m, hour, 2, 0), y.bounds(m, hour, 2, 0));
                Rig.due("bounds", x.bounds(m, hour, 5, 1), y.bounds(m, hour, 5, 1));
            }
            Rig.due("train", x.train(m, 0, 1), y.train(m, 0, 1));
            Rig.due("share", x.share(m, 1, 99, 1), y.share(m, 1, 99, 1));
            Rig.due("a clock", x.slipped(m, 0, 1, 6, 0), y.slipped(m, 0, 1, 6, 0));
            Rig.due("slip", x.slip(), y.slip());
            Rig.due("neighbour", x.neighbour(m, 0, 1, 6), y.neighbour(m, 0, 1, 6));
            Rig.due("lag", x.lag(), y.lag());
            Rig.due("led", x.led(m, 0, 1, 6), y.led(m, 0, 1, 6));
            Rig.due("spread", x.spread(m, 0, 0, 23), y.spread(m, 0, 0, 23));
            Rig.due("spread", x.spreadTold(2), y.spreadTold(2));
            Rig.due("waters", x.waters(m, 1, true, true), y.waters(m, 1, true, true));
            Rig.due("range", x.range(m, 1, true), y.range(m, 1, true));
            Rig.due("lasts", x.lasts(m, 100), y.lasts(m, 100));
            Rig.due("obey", x.obey(m, 9), y.obey(m, 9));
            Rig.due("marked", x.marked(1), y.marked(1));
        }
        Rig.due("trade", x.trade(1000), y.trade(1000));
        Rig.due("compare", x.compare(0, 1999, 0), y.compare(0, 1999, 0));
    }

    // ---- promise 11

    private static void faultTold() {
        Rig.says("Of the latest machine() or orders() with STATUS 0 or 10, what 0: the FAULT (0 without one), 1: its place");
        TideDiscs x = new TideDiscs();
        Rig.says("NONE for others, and ahead of any.");
        for (int what : new int[] {-1, 0, 1, 2, LEAST, MOST}) {
            Rig.due("ahead of any", x.fault(what), NONE);
        }
        x.machine(2, 0);
        x.machine(0, 1);
        x.orders(1);
        x.orders(-1);
        Rig.due("2 and 5 are none of these", x.fault(0), NONE);
        Rig.due("2 and 5 are none of these", x.fault(1), NONE);
        x.machine(0, 0);
        Rig.due("without one", x.fault(0), 0);
        Rig.due("without one", x.fault(1), NONE);
        Rig.machine(x, 0, "zero 100;");
        Rig.due("a fault", x.fault(0), 4);
        Rig.due("its place", x.fault(1), 5);
        for (int what : new int[] {-1, 2, LEAST, MOST}) {
            Rig.due("for others", x.fault(what), NONE);
        }
        Rig.feed(x, "zero 1;");
        x.machine(-1, 7);
        x.machine(1, 21);
        x.orders(21);
        Rig.due("2 and 5 leave it", x.fault(0), 4);
        Rig.due("2 and 5 leave it", x.fault(1), 5);
        x.machine(1, 7);
        Rig.due("of the other machine", x.fault(0), 0);
        Rig.due("of the other machine", x.fault(1), NONE);
        Rig.orders(x, "go 1; go;");
        Rig.due("of orders", x.fault(0), 2);
        Rig.due("of orders", x.fault(1), 8);
        x.orders(0);
        Rig.due("of orders without one", x.fault(0), 0);
        Rig.due("of orders without one", x.fault(1), NONE);
    }

    // ---- promises 12 to 14

    private static void toldEdges() {
        Rig.says("Of a MACHINE, what 0: how many WAVES, 1: KINDS of wheels, 2: SLACK, 3: ZERO (2; 5).");
        for (int what : new int[] {-1, 4, LEAST, MOST}) {
            Furnished.none(5, "what " + what, x -> x.told(0, what));
            Furnished.none(5, "what " + what, x -> x.told(1, what));
            Furnished.none(2, "2 ahead of 5", x -> x.told(2, what));
        }
        for (int m : new int[] {-1, 2, LEAST, MOST}) {
            Furnished.none(2, "machine " + m, x -> x.told(m, 0));
        }
        TideDiscs x = Furnished.make();
        int[][] wants = {{3, 3, 3, 4}, {2, 1, 5, 6}};
        for (int m = 0; m < 2; m++) {
            for (int what = 0; what < 4; what++) {
                Rig.fine("told", x, x.told(m, what), wants[m][what]);
            }
        }
    }

    private static void waveEdges() {
        Rig.says("3: AT, 4 to 7: the teeth of its TRAIN (8: it has none) (2; 5; 8).");
        for (int what : new int[] {-1, 8, LEAST, MOST}) {
            Furnished.none(5, "what " + what, x -> x.wave(0, 0, what));
            Furnished.none(5, "what " + what + " ahead of 8", x -> x.wave(0, 2, what));
            Furnished.none(2, "2 ahead of 5", x -> x.wave(0, 3, what));
            Furnished.none(2, "2 ahead of 5", x -> x.wave(2, 0, what));
        }
        for (int w : new int[] {-1, 3, 6, LEAST, MOST}) {
            Furnished.none(2, "wave " + w, x -> x.wave(0, w, 0));
        }
        Furnished.none(2, "wave 2 of machine 1", x -> x.wave(1, 2, 0));
        for (int m : new int[] {-1, 2, LEAST, MOST}) {
            Furnished.none(2, "machine " + m, x -> x.wave(m, 0, 0));
        }
        for (int what = 4; what < 8; what++) {
            int teeth = what;
            Furnished.none(8, "no train, what " + what, x -> x.wave(0, 2, teeth));
        }
        TideDiscs x = Furnished.make();
        Rig.fine("the last wave", x, x.wave(0, 2, 3), 7);
        Rig.fine("the last wave of machine 1", x, x.wave(1, 1, 7), 5);
        Rig.fine("of one couple", x, x.wave(0, 0, 7), 1);
    }

    private static void setEdges() {
        Rig.says("SIZE and AT of a WAVE are other ones (2; 5).");
        for (int size : new int[] {0, 1, 98, 99}) {
            for (int at : new int[] {0, 1, 22, 23}) {
                TideDiscs x = Furnished.make();
                Rig.fine("set", x, x.set(0, 1, size, at));
                Rig.fine("size", x, x.wave(0, 1, 2), size);
                Rig.fine("at", x, x.wave(0, 1, 3), at);
                Rig.fine("its place", x, x.place(0, 1, 0, false), at);
                Rig.fine("no other wave", x, x.wave(0, 0, 2), 60);
                Rig.fine("no other wave", x, x.wave(0, 2, 3), 7);
                Rig.fine("not of the other machine", x, x.wave(1, 1, 2), 8);
                Rig.fine("its train stays", x, x.wave(0, 1, 4), 23);
                Rig.fine("its turns stay", x, x.wave(0, 1, 0), 2);
            }
        }
        for (int size : new int[] {-1, 100, LEAST, MOST}) {
            Furnished.no(5, "size " + size, x -> x.set(0, 0, size, 0));
            Furnished.no(2, "2 ahead of 5", x -> x.set(0, 3, size, 0));
        }
        for (int at : new int[] {-1, 24, LEAST, MOST}) {
            Furnished.no(5, "at " + at, x -> x.set(0, 0, 0, at));
            Furnished.no(2, "2 ahead of 5", x -> x.set(2, 0, 0, at));
        }
        for (int w : new int[] {-1, 2, 6, LEAST, MOST}) {
            Furnished.no(2, "wave " + w, x -> x.set(1, w, 1, 1));
        }
        for (int m : new int[] {-1, 2, LEAST, MOST}) {
            Furnished.no(2, "machine " + m, x -> x.set(m, 0, 1, 1));
        }
        // a set MACHINE is gone with the next text
        TideDiscs x = good(WAVE + ";", 1);
        x.set(0, 0, 99, 23);
        Rig.machine(x, 0, WAVE + ";");
        Rig.fine("size of the text", x, x.wave(0, 0, 2), 0);
        Rig.fine("at of the text", x, x.wave(0, 0, 3), 0);
    }
}
