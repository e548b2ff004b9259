/** The edges of promises 46 to 50: ORDERS as texts, how they are OBEYED, a TABLE. */
public final class OrderEdgesTest {
    private static final int NONE = TideDiscs.NONE;
    private static final int LEAST = Integer.MIN_VALUE;
    private static final int MOST = Integer.MAX_VALUE;
    private static final int LAST = 99999;
    private static final int[] NO_MACHINES = {-1, 2, LEAST, MOST};
    /** HEIGHT TURNED is COS of the HOUR, TRUE it goes twice as fast. */
    private static final String COS_WAVE = "wave a turns 1 in 12 size 1 train 9 9;";

    public static void main(String[] args) {
        ordersLengths();
        ordersFull();
        ordersEmpty();
        ordersAndTheTape();
        ordersTokens();
        ordersGrammar();
        ordersNumbers();
        ordersEnds();
        ordersNested();
        ordersFortySteps();
        ordersLeastKind();
        ordersInPlaceOfThoseAhead();
        obeyHours();
        obeyNothing();
        goHours();
        untilLevels();
        untilWaters();
        untilWatersLookedAt();
        markThirty();
        readSums();
        loopRounds();
        loopsEmpty();
        whenLevels();
        obeyTwoHundred();
        obeyOver();
        obeyOverInLoops();
        obeyRefused();
        obeyedTold();
        markedTold();
        tableLengths();
        tableHours();
        tablePlaces();
        tableSorts();
        tableRefused();
        Rig.end();
    }

    /** ORDERS with a FAULT of this kind where the hat stands; those ahead stay. */
    private static void bad(int kind, String hatted) {
        int place = hatted.indexOf('^');
        String text = hatted.substring(0, place) + hatted.substring(place + 1);
        TideDiscs x = Rig.with(COS_WAVE);
        Rig.orders(x, "go 3;mark;mark;");
        Rig.refused("orders [" + text + "]", x, Rig.orders(x, text), 10);
        Rig.due("kind of [" + text + "]", x.fault(0), kind);
        Rig.due("place of [" + text + "]", x.fault(1), place);
        Rig.refused("the tape is empty", x, x.orders(1), 5);
        Rig.fine("the old ones stay", x, x.obey(0, 5), 8);
        told(x, 3, 0, 2, 0);
    }

    private static TideDiscs good(String text, int steps) {
        TideDiscs x = Rig.with(COS_WAVE);
        Rig.fine("orders [" + text + "]", x, Rig.orders(x, text), steps);
        Rig.due("no fault", x.fault(0), 0);
        Rig.due("no place", x.fault(1), NONE);
        return x;
    }

    /** Of the latest obey(). */
    private static void told(TideDiscs x, int steps, long register, int marks, int left) {
        Rig.fine("steps", x, x.obeyed(0), steps);
        Rig.fine("register", x, x.obeyed(1), register);
        Rig.fine("marks", x, x.obeyed(2), marks);
        Rig.fine("left", x, x.obeyed(3), left);
        Rig.refused("no more marks", x, x.marked(marks), 8);
    }

    private static TideDiscs obey(String text, int from, int end) {
        TideDiscs x = Rig.with(COS_WAVE);
        Rig.due("orders [" + text + "]", Rig.orders(x, text) >= 0, true);
        Rig.fine("obey [" + text + "] from " + from, x, x.obey(0, from), end);
        return x;
    }

    // ---- promise 46

    private static void ordersLengths() {
        Rig.says("are the ORDERS: how many STEPS (5: above 300, too; 10: the old ones stay).");
        for (int n : new int[] {-1, 21, 300, 301, LEAST, MOST}) {
            Furnished.none(5, n + " bytes of twenty", x -> x.orders(n));
        }
        for (int n = 0; n <= 20; n++) {
            TideDiscs x = new TideDiscs();
            Rig.feed(x, " ".repeat(20));
            Rig.fine(n + " bytes of twenty", x, x.orders(n), 0);
        }
        Rig.says("ORDERS are a TEXT of at most 300 bytes");
        for (int n : new int[] {300, 301, 320, 600, 601}) {
            TideDiscs x = new TideDiscs();
            Rig.feed(x, " ".repeat(600));
            if (n == 300) {
                Rig.fine("300 of 600", x, x.orders(n), 0);
            } else {
                Rig.refused(n + " of 600", x, x.orders(n), 5);
                Rig.fine("the tape is as it was", x, x.machine(0, 600), 0);
            }
        }
    }

    private static void ordersFull() {
        String text = "\n".repeat(140) + "go 7;mark;" + " ".repeat(145) + "mark;";
        Rig.due("300 bytes", text.length(), 300);
        TideDiscs x = good(text, 3);
        Rig.fine("obey", x, x.obey(0, 1), 8);
        told(x, 3, 0, 2, 0);
        bad(2, text.substring(0, 299) + " ^");
        bad(2, text.substring(0, 295) + "^marks");
        // 40 STEPS with three rounds of ends in 300 bytes
        x = good("loop 9;loop 9;loop 9;" + "mark;".repeat(37) + "end;end;end;", 40);
        Rig.fine("obey", x, x.obey(0, 1), 1);
        told(x, 200, 0, 30, 1);
        // as many loops as 300 bytes have: each with its end
        String loops = "loop 1;end;".repeat(27);
        x = good(loops, 27);
        Rig.fine("obey", x, x.obey(0, 1), 1);
        told(x, 27, 0, 0, 0);
    }

    private static void ordersEmpty() {
        Rig.says("ORDERS: {STEP}.");
        TideDiscs x = good("mark;", 1);
        Rig.feed(x, "mark;mark;");
        Rig.fine("none of twenty bytes", x, x.orders(0), 0);
        Rig.refused("the tape is empty", x, x.orders(1), 5);
        Rig.fine("obey", x, x.obey(0, 9), 9);
        told(x, 0, 0, 0, 0);
        good(" ", 0);
        good("\n \n", 0);
        Rig.fine("none of no bytes", x, x.orders(0), 0);
    }

    private static void ordersAndTheTape() {
        Rig.says("The first n bytes of the tape (which is empty then, but for 5)");
        TideDiscs x = new TideDiscs();
        Rig.feed(x, "mark;read;go 5;");
        Rig.refused("5", x, x.orders(21), 5);
        Rig.refused("5", x, x.orders(-1), 5);
        Rig.fine("the first ten", x, x.orders(10), 2);
        Rig.refused("what was behind them is gone, too", x, x.orders(1), 5);
        Rig.due("the tape is empty", x.feed(0, 0, 0, 0, 0), 20);
        Rig.refused("a fault", x, x.orders(1), 10);
        Rig.due("the tape is empty", x.feed(0, 0, 0, 0, 0), 20);
        // the tape of a furnished object is "slack 77; zero 88;  "
        Furnished.faulty("orders", y -> y.orders(5), 2, 0);
        Furnished.faulty("orders", y -> y.orders(20), 2, 0);
    }

    private static void ordersTokens() {
        Rig.says("of TOKENS as a MACHINE");
        for (int b = 0; b < 256; b++) {
            char c = (char) b;
            if (b == 10 || b == 32) {
                TideDiscs x = good("go" + c + "5" + c + ";" + c, 1);
                Rig.fine("a blank", x, x.obey(0, 0), 5);
            } else if (c >= '0' && c <= '9') {
                TideDiscs x = good("go" + c + "5;", 1);
                Rig.fine("a digit more", x, x.obey(0, 0), 10 * (c - '0') + 5);
            } else if (c >= 'a' && c <= 'z') {
                bad(2, "^go" + c + "5;");
                bad(2, "go 5^" + c + ";");
            } else {
                bad(c == ';' ? 2 : 1, "go^" + c + "5;");
                bad(c == ';' ? 2 : 1, "go 5;^" + c);
            }
        }
        good("go5;mark;go6;", 3);
        good("until above less5;", 1);
        bad(1, "go ^10000;");
        bad(1, "go ^00005;");
        bad(1, "until above less ^10000;");
        bad(2, "^gomark;");
        bad(2, "^goo 5;");
        bad(1, "^Go 5;");
    }

    private static void ordersGrammar() {
        Rig.says("STEP: go NUMBER ; or until WHAT ; or mark ; or read ; or loop NUMBER ; {STEP} end ; or when LEVEL ; {STEP} end ;");
        good("go 5;until high;until low;until above 5;until below less 5;mark;read;loop 2;mark;end;when above 5;read;end;", 11);
        for (String step : new String[] {"go", "go 5", "until", "until high", "until low", "until above", "until above 5", "until above less",
            "until above less 5", "until below", "mark", "read", "loop", "loop 5", "when", "when above", "when above 5", "when below less",
            "loop 5; end", "when above 5; end", "loop 5; mark", "loop 5; mark; end"}) {
            bad(2, step + "^");
            bad(2, "mark; " + step + " \n^");
        }
        bad(2, "^5;");
        bad(2, "^;");
        bad(2, "^wave m turns 1 in 24;");
        bad(2, "^high;");
        bad(2, "go ^;");
        bad(2, "go ^less 5;");
        bad(2, "go ^above 5;");
        bad(2, "go 5 ^6;");
        bad(2, "go 5 ^mark;");
        bad(2, "until ^;");
        bad(2, "until ^5;");
        bad(2, "until ^less 5;");
        bad(2, "until ^mark;");
        bad(2, "until high ^5;");
        bad(2, "until high ^low;");
        bad(2, "until above ^;");
        bad(2, "until above ^below 5;");
        bad(2, "until above less ^less 5;");
        bad(2, "until above less ^;");
        bad(2, "until above 5 ^less;");
        bad(2, "mark ^5;");
        bad(2, "mark ^mark;");
        bad(2, "read ^5;");
        bad(2, "loop ^;");
        bad(2, "loop ^less 5;");
        bad(2, "loop 5 ^5;");
        bad(2, "loop 5; end ^5;");
        bad(2, "loop 5; end ^end;");
        bad(2, "when ^;");
        bad(2, "when ^high;");
        bad(2, "when ^low;");
        bad(2, "when ^5;");
        bad(2, "when ^less 5;");
        bad(2, "when above ^;");
        bad(2, "when above 5 ^6;");
        bad(2, "mark;^;");
    }

    private static void ordersNumbers() {
        Rig.says("go n (0 to 9,999): so many HOURS later.");
        good("go 0;go 9999;go 0000;", 3);
        Rig.says("LEVEL: above [less] NUMBER, or below [less] NUMBER.");
        good("until above 0;until above 9999;until below less 0;until below less 9999;when above less 9999;end;when below 0;end;", 6);
        Rig.says("loop n (1 to 9): the STEPS up to its end are done n times.");
        for (int n = 1; n <= 9; n++) {
            good("loop " + n + ";end;", 1);
            good("loop 000" + n + ";end;", 1);
        }
        Rig.says("4 a NUMBER that can't be. 5 a loop, a when within three others (at its WORD).");
        bad(4, "loop ^0;end;");
        bad(4, "loop ^0000;end;");
        bad(4, "loop ^10;end;");
        bad(4, "loop ^9999;end;");
        bad(4, "loop ^10");
    }

    private static void ordersEnds() {
        Rig.says("(an end without a loop or when; the text's end ahead of an end: 2)");
        bad(2, "^end;");
        bad(2, "mark;^end;");
        bad(2, "loop 1;end;^end;");
        bad(2, "when above 1;end;^end;");
        bad(2, "loop 1;loop 1;end;end;^end;");
        bad(2, "loop 1;^");
        bad(2, "loop 1;mark; ^");
        bad(2, "when above 1;^");
        bad(2, "loop 1;loop 1;end;^");
        bad(2, "loop 1;when above 1;loop 1;end;end;\n^");
    }

    private static void ordersNested() {
        String[] opens = {"loop 2;", "when above 5;"};
        for (int i = 0; i < 16; i++) {
            String three = opens[i & 1] + opens[i >> 1 & 1] + opens[i >> 2 & 1];
            good(three + "end;end;end;", 3);
            good(three + "mark;end;end;end;", 4);
            good(three + "end;" + opens[i >> 3] + "end;end;" + opens[i & 1] + "end;end;" + three + "end;end;end;", 8);
            bad(5, three + "^" + opens[i >> 3] + "end;end;end;end;");
            bad(5, three + "end;" + opens[0] + "^" + opens[i >> 3]);
            bad(5, three + "mark;^" + opens[i >> 3].substring(0, 4));
        }
    }

    private static void ordersFortySteps() {
        Rig.says("6 a 41st STEP (at its WORD; end is none).");
        String forty = "mark;".repeat(40);
        good("mark;".repeat(39), 39);
        good(forty, 40);
        for (String step : new String[] {"go 5;", "until high;", "mark;", "read;", "loop 2;end;", "when above 5;end;"}) {
            good("mark;".repeat(39) + step, 40);
            bad(6, forty + "^" + step);
            bad(6, forty + "\n ^" + step.split("[ ;]")[0]);
        }
        // loop and when count as one each, their ends do not
        String loops = "loop 1;end;".repeat(10) + "mark;".repeat(29);
        good(loops + "mark;", 40);
        bad(6, loops + "mark;^read;");
        String inside = "loop 1;" + "mark;".repeat(39);
        good(inside + "end;", 40);
        bad(6, inside + "^mark;end;");
        bad(6, inside + "end;^mark;");
    }

    private static void ordersLeastKind() {
        Rig.says("of one TOKEN the least kind");
        String full = "loop 1;loop 1;loop 1;" + "mark;".repeat(37);
        // a 41st STEP within three others: 5 ahead of 6; no STEP at all: 2 ahead of 6; no TOKEN: 1
        bad(5, full + "^loop 1;");
        bad(5, full + "^when above 1;");
        bad(6, full + "^mark;");
        bad(2, full + "^marks;");
        bad(2, full + "^5");
        bad(2, full + "^;");
        bad(1, full + "^#");
        bad(1, full + "^12345");
        bad(2, full + "^");
        // the first along the text
        bad(4, "loop ^0;end;end;#");
        bad(2, "mark ^go 12345;");
    }

    private static void ordersInPlaceOfThoseAhead() {
        Rig.says("10: the old ones stay");
        TideDiscs x = Rig.with(COS_WAVE);
        for (int i = 0; i < 3; i++) {
            Rig.fine("ten", x, Rig.orders(x, "mark;".repeat(10)), 10);
            x.obey(0, 0);
            told(x, 10, 0, 10, 0);
            Rig.fine("two", x, Rig.orders(x, "go 1;until above less 5;"), 2);
            Rig.fine("obey", x, x.obey(0, 0), 2);
            told(x, 2, 0, 0, 0);
            Rig.refused("left open", x, Rig.orders(x, "loop 2;loop 2;loop 2;"), 10);
            Rig.fine("obey", x, x.obey(0, 0), 2);
            // nothing of those left open stays open
            Rig.fine("nested", x, Rig.orders(x, "loop 2;loop 2;loop 2;mark;end;end;end;"), 4);
            x.obey(0, 0);
            told(x, 1 + 2 + 4 + 8, 0, 8, 0);
        }
        leftInALoop();
        // a MACHINE is no ORDERS, and ORDERS are no MACHINE
        Rig.fine("machine", x, Rig.machine(x, 0, "zero 1;"), 0);
        Rig.fine("the orders stay", x, x.obey(0, 0), 0);
        told(x, 15, 0, 8, 0);
        Rig.fine("zero", x, x.told(0, 3), 1);
        Rig.orders(x, "read;");
        Rig.fine("the machine stays", x, x.told(0, 3), 1);
        x.obey(0, 0);
        told(x, 1, 12, 0, 0);
        x.obey(1, 0);
        told(x, 1, 0, 0, 0);
    }

    /** What was left within a loop is no matter to ORDERS that come in its place. */
    private static void leftInALoop() {
        String[] next = {"when below 99;mark;end;", "mark;mark;", "loop 1;mark;mark;end;", "mark;when below 99;mark;end;read;"};
        int[] steps = {2, 2, 3, 4};
        for (int n = 0; n < next.length; n++) {
            TideDiscs x = Rig.with(COS_WAVE);
            for (int i = 0; i < 4; i++) {
                Rig.orders(x, i % 2 == 0 ? "loop 9;go 9999;end;loop 9;end;" : "mark;loop 9;go 9999;end;");
                Rig.fine("over in its loop", x, x.obey(0, 99990), LAST);
                // rows are used in turn, so others come between
                Rig.orders(x, i < 2 ? next[n] : "mark;loop 9;loop 9;go 9999;end;end;");
                x.obey(0, 99990);
                Rig.orders(x, next[n]);
                Rig.fine("obey", x, x.obey(0, 99990), 99990);
                Rig.fine("steps", x, x.obeyed(0), steps[n]);
                Rig.fine("left", x, x.obeyed(3), 0);
            }
        }
    }

    // ---- promise 47

    private static void obeyHours() {
        Rig.says("OBEYED by a MACHINE from an HOUR on: the HOUR at the end (2; 5).");
        TideDiscs x = obey("mark;", 0, 0);
        Rig.fine("marked", x, x.marked(0), 0);
        x = obey("mark;", LAST, LAST);
        Rig.fine("marked", x, x.marked(0), LAST);
        told(x, 1, 0, 1, 0);
    }

    private static void obeyNothing() {
        TideDiscs x = Rig.with(COS_WAVE);
        for (int from : new int[] {0, 5, LAST}) {
            Rig.fine("no orders", x, x.obey(0, from), from);
            told(x, 0, 0, 0, 0);
            Rig.fine("no orders", x, x.obey(1, from), from);
            told(x, 0, 0, 0, 0);
        }
    }

    private static void goHours() {
        Rig.says("go n (0 to 9,999): so many HOURS later.");
        told(obey("go 0;", 7, 7), 1, 0, 0, 0);
        told(obey("go 1;", 7, 8), 1, 0, 0, 0);
        told(obey("go 9999;", 7, 10006), 1, 0, 0, 0);
        told(obey("go 9999;", LAST - 9999, LAST), 1, 0, 0, 0);
        told(obey("go 0;mark;", LAST, LAST), 2, 0, 1, 0);
    }

    private static void untilLevels() {
        Rig.says("until: one HOUR later, and so on, till there is HIGH, LOW WATER, or HEIGHT TURNED is above, below so much.");
        // by the HOUR: 12 12 10 8 6 3 0 -3 -6 -8 -10 -12 -12 -12 -10 -8 -6 -3 0 3 6 8 10 12
        obey("until below 8;", 0, 4);
        obey("until below 7;", 0, 4);
        obey("until below 6;", 0, 5);
        obey("until below 0;", 0, 7);
        obey("until below less 0;", 0, 7);
        obey("until below less 3;", 0, 8);
        obey("until below less 11;", 0, 11);
        obey("until above 0;", 12, 19);
        obey("until above 3;", 12, 20);
        obey("until above less 3;", 12, 18);
        obey("until above less 12;", 12, 14);
        obey("until above 11;", 12, 23);
        // one HOUR later, though it is so already
        obey("until above 0;", 0, 1);
        obey("until above 11;", 0, 1);
        obey("until above 11;", 1, 23);
        obey("until below 0;", 11, 12);
        obey("until below 9999;", 5, 6);
        obey("until above less 9999;", 5, 6);
        // the last HOUR counts: it has -8, the one ahead -10
        told(obey("until above less 9;mark;", LAST - 2, LAST), 2, 0, 1, 0);
        told(obey("until above less 8;mark;", LAST - 2, LAST), 1, 0, 0, 1);
        told(obey("until below 0;mark;", LAST - 1, LAST), 2, 0, 1, 0);
        told(obey("until below 0;mark;", LAST, LAST), 1, 0, 0, 1);
        // what can never be
        for (String never : new String[] {"above 12", "above 13", "above 9999", "below less 12", "below less 9999"}) {
            told(obey("until " + never + ";mark;", 0, LAST), 1, 0, 0, 1);
        }
        // just the highest and the least there are
        TideDiscs x = Rig.with("wave a turns 1 in 24 size 99; zero 99;");
        Rig.orders(x, "until above 2375;");
        Rig.fine("2376 is above 2375", x, x.obey(0, 2), 23);
        Rig.orders(x, "until above 2376;");
        Rig.fine("2376 is not above 2376", x, x.obey(0, 2), LAST);
        Rig.orders(x, "until below 1;");
        Rig.fine("0 is below 1", x, x.obey(0, 2), 11);
        Rig.orders(x, "until below 0;");
        Rig.fine("0 is not below 0", x, x.obey(0, 2), LAST);
        // a MACHINE that stands still
        Rig.orders(x, "until above 0;");
        Rig.fine("0 is not above 0", x, x.obey(1, 0), LAST);
        Rig.orders(x, "until above less 1;");
        Rig.fine("0 is above -1", x, x.obey(1, 0), 1);
        Rig.orders(x, "until below 1;");
        Rig.fine("0 is below 1", x, x.obey(1, 0), 1);
    }

    private static void untilWaters() {
        // HIGH WATER at 23, 47 .. by the TRAIN; TRUE it would be at 12, 24 ..
        obey("until high;", 0, 23);
        obey("until high;", 22, 23);
        obey("until high;", 23, 47);
        obey("until high;", 24, 47);
        obey("until low;", 0, 11);
        obey("until low;", 10, 11);
        obey("until low;", 11, 35);
        obey("until low;", 12, 35);
        obey("until high;until high;until low;", 0, 59);
        // the last ones: HIGH at 99,983, LOW at 99,995
        told(obey("until high;mark;", 99982, 99983), 2, 0, 1, 0);
        told(obey("until high;mark;", 99983, LAST), 1, 0, 0, 1);
        told(obey("until low;mark;", 99994, 99995), 2, 0, 1, 0);
        told(obey("until low;mark;", 99995, LAST), 1, 0, 0, 1);
        told(obey("until low;mark;", LAST, LAST), 1, 0, 0, 1);
        TideDiscs x = Rig.with("wave a turns 1 in 24 size 1 at 8;");
        Rig.orders(x, "until high;mark;");
        Rig.fine("the last hour is one", x, x.obey(0, 99990), LAST);
        told(x, 2, 0, 1, 0);
        Rig.machine(x, 0, "wave a turns 1 in 24 size 1 at 7;");
        Rig.fine("the hour behind the last is none", x, x.obey(0, 99990), LAST);
        told(x, 1, 0, 0, 1);
        // HOUR 0 is none, HOUR 1 may be one
        Rig.machine(x, 0, "wave a turns 1 in 24 size 1 at 22;");
        Rig.fine("hour 1", x, x.obey(0, 0), 1);
        // nothing moves
        Rig.fine("nothing moves", x, x.obey(1, 0), LAST);
        told(x, 1, 0, 0, 1);
    }

    private static void untilWatersLookedAt() {
        Rig.says("the HOURS looked at go to 100,100.");
        // as in waters(): it is less in HOUR 100,100, or in HOUR 100,101
        TideDiscs x = Rig.with("wave a turns 1 in 1200 size 1 at 16;");
        Rig.orders(x, "until high;mark;");
        Rig.fine("less in 100,100", x, x.obey(0, 99900), 99950);
        told(x, 2, 0, 1, 0);
        Rig.machine(x, 0, "wave a turns 1 in 1464 size 1 at 17;");
        Rig.fine("less in 100,101", x, x.obey(0, 99900), LAST);
        told(x, 1, 0, 0, 1);
        Rig.machine(x, 0, "wave a turns 1 in 1200 size 1 at 4;");
        Rig.orders(x, "until low;mark;");
        Rig.fine("greater in 100,100", x, x.obey(0, 99900), 99950);
        Rig.machine(x, 0, "wave a turns 1 in 1464 size 1 at 5;");
        Rig.fine("greater in 100,101", x, x.obey(0, 99900), LAST);
    }

    private static void markThirty() {
        Rig.says("mark: the HOUR is written down (of more than 30 the first 30).");
        for (int many : new int[] {0, 1, 29, 30, 31, 40}) {
            told(obey("mark;".repeat(many), 9, 9), many, 0, Math.min(many, 30), 0);
        }
        TideDiscs x = obey("loop 8;loop 4;mark;go 1;end;end;", 50, 82);
        told(x, 1 + 8 + 64, 0, 30, 0);
        for (int k = 0; k < 30; k++) {
            Rig.fine("mark " + k, x, x.marked(k), 50 + k);
        }
        Rig.refused("no 31st", x, x.marked(30), 8);
    }

    private static void readSums() {
        Rig.says("read: HEIGHT TURNED is added to the REGISTER (0 at first).");
        told(obey("read;", 0, 0), 1, 12, 0, 0);
        told(obey("read;read;", 12, 12), 2, -24, 0, 0);
        told(obey("read;go 12;read;", 0, 12), 3, 0, 0, 0);
        // 0 at first, each time anew
        TideDiscs x = obey("read;", 0, 0);
        x.obey(0, 0);
        told(x, 1, 12, 0, 0);
        // as far as it goes: as many reads as 200 STEPS have, of 8,316 each
        StringBuilder six = new StringBuilder();
        for (int i = 0; i < 6; i++) {
            six.append("wave ").append((char) ('a' + i)).append(" turns 1 in 24 size 99;");
        }
        Rig.machine(x, 0, six + "zero 99;");
        Rig.orders(x, "loop 9;loop 9;loop 9;read;end;end;end;");
        x.obey(0, 0);
        // the outer loop, two rounds of 91 STEPS with 81 reads each, and 17 STEPS of the third
        int reads = 2 * 81 + reads(17);
        told(x, 200, 8316L * reads, 0, 1);
    }

    /** Of so many STEPS of an outer round: loop, then again and again loop and nine reads. */
    private static int reads(int steps) {
        int reads = 0;
        for (int i = 1; i < steps; i++) {
            reads += (i - 1) % 10 == 0 ? 0 : 1;
        }
        return reads;
    }

    private static void loopRounds() {
        for (int n = 1; n <= 9; n++) {
            TideDiscs x = obey("loop " + n + ";go 10;end;mark;", 0, 10 * n);
            told(x, 2 + n, 0, 1, 0);
            Rig.fine("behind it", x, x.marked(0), 10 * n);
        }
        told(obey("loop 2;go 1;loop 3;go 10;loop 4;go 100;end;end;end;", 0, 2 + 60 + 2400), 1 + 2 * (2 + 3 * (2 + 4)), 0, 0, 0);
        // a loop that is come to again is done as often again
        told(obey("loop 3;loop 2;go 1;end;loop 1;go 10;end;end;", 0, 36), 1 + 3 * (3 + 2), 0, 0, 0);
    }

    private static void loopsEmpty() {
        Rig.says("(loop, when count as one each time they are come to; end does not, and leads back behind its loop)");
        told(obey("loop 9;end;", 5, 5), 1, 0, 0, 0);
        told(obey("loop 9;end;mark;", 5, 5), 2, 0, 1, 0);
        told(obey("loop 3;loop 9;end;end;", 5, 5), 4, 0, 0, 0);
        told(obey("loop 9;loop 9;loop 1;end;end;end;", 5, 5), 1 + 9 + 81, 0, 0, 0);
        told(obey("loop 2;loop 2;loop 2;end;end;end;mark;", 5, 5), 1 + 2 + 4 + 1, 0, 1, 0);
        told(obey("when above 5;end;", 0, 0), 1, 0, 0, 0);
        told(obey("when above 50;end;", 0, 0), 1, 0, 0, 0);
        told(obey("loop 4;when above 5;end;end;", 0, 0), 5, 0, 0, 0);
        told(obey("loop 4;when above 50;end;end;mark;", 0, 0), 6, 0, 1, 0);
    }

    private static void whenLevels() {
        Rig.says("when: they are done, if HEIGHT TURNED is so.");
        // HOUR 2 has 10, HOUR 10 -10
        when("above 9", 2, true);
        when("above 10", 2, false);
        when("above 11", 2, false);
        when("below 11", 2, true);
        when("below 10", 2, false);
        when("below 9", 2, false);
        when("above less 11", 10, true);
        when("above less 10", 10, false);
        when("below less 9", 10, true);
        when("below less 10", 10, false);
        when("above 0", 6, false);
        when("below 0", 6, false);
        when("above less 0", 6, false);
        when("below less 0", 6, false);
        when("above less 9999", 0, true);
        when("below 9999", 0, true);
        when("above 9999", 0, false);
        when("below less 9999", 0, false);
        // nested ones are left out with it
        told(obey("when above 50;loop 2;mark;end;when below 50;mark;end;end;read;", 0, 0), 2, 12, 0, 0);
        told(obey("when below 50;loop 2;mark;end;when below 50;mark;end;end;read;", 0, 0), 1 + 3 + 2 + 1, 12, 3, 0);
        // it is asked each time that it is come to: 12 12 10 8 6
        told(obey("loop 5;when above 8;mark;end;go 1;end;", 0, 5), 1 + 5 * 2 + 3, 0, 3, 0);
    }

    private static void when(String level, int hour, boolean done) {
        TideDiscs x = obey("when " + level + ";go 100;mark;end;read;", hour, done ? hour + 100 : hour);
        Rig.fine("steps", x, x.obeyed(0), done ? 4 : 2);
        Rig.fine("marks", x, x.obeyed(2), done ? 1 : 0);
    }

    private static void obeyTwoHundred() {
        Rig.says("OBEYED by a MACHINE from an HOUR on: STEP by STEP");
        Rig.says("and leads back behind its loop), at most 200; it is over, too");
        // 1 + 9 x (1 + 9 x 2) = 172
        String most = "loop 9;loop 9;go 1;read;end;end;";
        told(obey(most, 0, 81), 172, sum(81), 0, 0);
        told(obey(most + "mark;".repeat(27), 0, 81), 199, sum(81), 27, 0);
        told(obey(most + "mark;".repeat(28), 0, 81), 200, sum(81), 28, 0);
        told(obey(most + "mark;".repeat(29), 0, 81), 200, sum(81), 28, 1);
        told(obey(most + "mark;".repeat(30), 0, 81), 200, sum(81), 28, 1);
        // the 200th is the last in its loop: the end is none, and the next round is
        told(obey(most + "mark;".repeat(26) + "loop 1;mark;end;", 0, 81), 200, sum(81), 27, 0);
        told(obey(most + "mark;".repeat(26) + "loop 2;mark;end;", 0, 81), 200, sum(81), 27, 1);
        told(obey(most + "mark;".repeat(25) + "loop 1;loop 1;mark;end;end;", 0, 81), 200, sum(81), 26, 0);
        told(obey(most + "mark;".repeat(25) + "loop 1;loop 1;mark;end;end;go 1;", 0, 81), 200, sum(81), 26, 1);
        // the 200th is a loop, or a when: what is in it is left
        told(obey(most + "mark;".repeat(27) + "loop 1;mark;end;", 0, 81), 200, sum(81), 27, 1);
        told(obey(most + "mark;".repeat(27) + "loop 9;end;", 0, 81), 200, sum(81), 27, 0);
        told(obey(most + "mark;".repeat(27) + "when above less 99;mark;end;", 0, 81), 200, sum(81), 27, 1);
        told(obey(most + "mark;".repeat(27) + "when above 99;mark;end;", 0, 81), 200, sum(81), 27, 0);
        told(obey(most + "mark;".repeat(27) + "when above 99;mark;end;go 1;", 0, 81), 200, sum(81), 27, 1);
        // the 200th goes as all do
        told(obey(most + "mark;".repeat(27) + "go 5;", 0, 86), 200, sum(81), 27, 0);
        told(obey(most + "mark;".repeat(28) + "go 5;", 0, 81), 200, sum(81), 28, 1);
        // nothing but loops
        told(obey("loop 9;loop 9;loop 9;end;end;end;", 0, 0), 91, 0, 0, 0);
        told(obey("loop 9;loop 9;loop 9;go 1;end;end;end;", 0, 2 * 81 + reads(17)), 200, 0, 0, 1);
    }

    /** COS of HOURS 1 to n. */
    private static int sum(int n) {
        int[] cos = {12, 12, 10, 8, 6, 3, 0, -3, -6, -8, -10, -12, -12, -12, -10, -8, -6, -3, 0, 3, 6, 8, 10, 12};
        int sum = 0;
        for (int h = 1; h <= n; h++) {
            sum += cos[h % 24];
        }
        return sum;
    }

    private static void obeyOver() {
        Rig.says("it is over, too, as soon as the HOUR would go above 99,999 (that STEP is done, the HOUR is 99,999 then).");
        told(obey("go 1;mark;", LAST - 1, LAST), 2, 0, 1, 0);
        told(obey("go 1;mark;", LAST, LAST), 1, 0, 0, 1);
        told(obey("go 9999;mark;", LAST - 9998, LAST), 1, 0, 0, 1);
        told(obey("go 9999;mark;", LAST - 9999, LAST), 2, 0, 1, 0);
        told(obey("go 9999;", LAST, LAST), 1, 0, 0, 0);
        told(obey("mark;read;go 1;", LAST, LAST), 3, -8, 1, 0);
        told(obey("until above 12;", 0, LAST), 1, 0, 0, 0);
        told(obey("until above 12;read;", 0, LAST), 1, 0, 0, 1);
        told(obey("go 1;go 0;", LAST, LAST), 1, 0, 0, 1);
        // what is behind would not be done, so it is left, whatever it is
        told(obey("go 1;loop 9;end;", LAST, LAST), 1, 0, 0, 1);
        told(obey("go 1;when above 99;end;", LAST, LAST), 1, 0, 0, 1);
    }

    private static void obeyOverInLoops() {
        told(obey("loop 1;go 1;end;", LAST, LAST), 2, 0, 0, 0);
        told(obey("loop 2;go 1;end;", LAST, LAST), 2, 0, 0, 1);
        told(obey("loop 2;go 1;end;", LAST - 1, LAST), 3, 0, 0, 0);
        told(obey("loop 1;loop 1;loop 1;go 1;end;end;end;", LAST, LAST), 4, 0, 0, 0);
        told(obey("loop 1;loop 2;loop 1;go 1;end;end;end;", LAST, LAST), 4, 0, 0, 1);
        told(obey("loop 1;loop 1;loop 1;go 1;end;end;end;mark;", LAST, LAST), 4, 0, 0, 1);
        told(obey("when below 0;go 1;end;", LAST, LAST), 2, 0, 0, 0);
        told(obey("when below 0;go 1;mark;end;", LAST, LAST), 2, 0, 0, 1);
        // HIGH WATER at 99,023 to 99,983 is there 41 times; the 42nd time it is over, in the fifth inner loop
        told(obey("loop 9;loop 9;until high;end;end;", 99000, LAST), 1 + 5 + 42, 0, 0, 1);
    }

    private static void obeyRefused() {
        for (int h : new int[] {-1, 100000, LEAST, MOST}) {
            Furnished.none(5, "hour " + h, x -> x.obey(0, h));
            Furnished.none(5, "hour " + h, x -> x.obey(1, h));
        }
        for (int m : NO_MACHINES) {
            Furnished.none(2, "machine " + m, x -> x.obey(m, 0));
            Furnished.none(2, "machine " + m + " ahead of 5", x -> x.obey(m, -1));
        }
    }

    // ---- promises 48 and 49

    private static void obeyedTold() {
        Rig.says("Of obey() latest with STATUS 0, what 0: how many STEPS were done, 1: the REGISTER, 2: how many HOURS were written down, 3: 1 if a STEP was left to be done, else 0 (5; 8: there was none).");
        for (int what : new int[] {-1, 4, LEAST, MOST}) {
            Furnished.none(5, "what " + what, x -> x.obeyed(what));
            TideDiscs x = new TideDiscs();
            Rig.refused("what " + what + " ahead of 8", x, x.obeyed(what), 5);
        }
        TideDiscs x = Rig.with(COS_WAVE);
        Rig.orders(x, "go 12;read;mark;");
        for (int what = 0; what < 4; what++) {
            Rig.refused("orders are not obeyed yet", x, x.obeyed(what), 8);
        }
        x.obey(0, 100000);
        x.obey(2, 0);
        Rig.refused("refused", x, x.obeyed(0), 8);
        x.obey(0, 0);
        told(x, 3, -12, 1, 0);
        x.obey(0, -1);
        told(x, 3, -12, 1, 0);
        Rig.orders(x, "mark;mark;");
        told(x, 3, -12, 1, 0);
        x.machine(0, 0);
        told(x, 3, -12, 1, 0);
        Rig.fine("of the latest", x, x.obey(0, 5), 5);
        told(x, 2, 0, 2, 0);
    }

    private static void markedTold() {
        Rig.says("The k-th HOUR written down by obey() latest with STATUS 0 (8: none such).");
        for (int k : new int[] {-1, 3, 30, LEAST, MOST}) {
            Furnished.none(8, "mark " + k, x -> x.marked(k));
        }
        TideDiscs x = Rig.with(COS_WAVE);
        Rig.orders(x, "mark;go 5;mark;");
        Rig.refused("ahead of any", x, x.marked(0), 8);
        x.obey(0, 10);
        Rig.fine("the first", x, x.marked(0), 10);
        Rig.fine("the second", x, x.marked(1), 15);
        Rig.refused("no third", x, x.marked(2), 8);
        x.obey(0, -1);
        Rig.fine("refused", x, x.marked(1), 15);
        x.obey(0, 99998);
        Rig.fine("the first", x, x.marked(0), 99998);
        Rig.refused("over ahead of the second", x, x.marked(1), 8);
        x.orders(0);
        Rig.fine("still", x, x.marked(0), 99998);
        x.obey(0, 0);
        Rig.refused("none this time", x, x.marked(0), 8);
    }

    // ---- promise 50

    private static void tableLengths() {
        Rig.says("A TABLE in a TRAY from an HOUR on: the first place (of so many, 1 to 60) that is not HEIGHT TURNED.");
        TideDiscs x = new TideDiscs();
        x.tray(0, 3, 60);
        Rig.fine("one", x, x.table(0, 0, 0, 1), NONE);
        Rig.fine("sixty", x, x.table(0, 0, 0, 60), NONE);
        for (int many : new int[] {0, -1, 61, LEAST, MOST}) {
            for (int from : new int[] {0, 5, 99999}) {
                Rig.refused(many + " from " + from, x, x.table(0, 0, from, many), 5);
                Furnished.none(5, many + " from " + from, y -> y.table(0, 0, from, many));
            }
        }
        x.tray(0, 3, 59);
        Rig.fine("59", x, x.table(0, 0, 0, 59), NONE);
        Rig.refused("too few", x, x.table(0, 0, 0, 60), 4);
        Furnished.none(4, "too few", y -> y.table(0, 0, 0, Furnished.READINGS + 1));
        Furnished.none(4, "too few", y -> y.table(0, 1, 0, 60));
        Furnished.none(4, "an empty tray", y -> y.table(0, Furnished.EMPTY_TRAY, 0, 1));
    }

    private static void tableHours() {
        Rig.says("(1; 2; 3; 5: so many, an HOUR, the last place's, too; 4; in this order)");
        TideDiscs x = new TideDiscs();
        x.tray(0, 0, 60);
        Rig.fine("to the last hour", x, x.table(0, 0, 99940, 60), NONE);
        Rig.refused("above the last hour", x, x.table(0, 0, 99941, 60), 5);
        Rig.fine("the last hour", x, x.table(0, 0, LAST, 1), NONE);
        Rig.refused("above the last hour", x, x.table(0, 0, LAST, 2), 5);
        for (int from : new int[] {-1, 100000, LEAST, MOST}) {
            Furnished.none(5, "from " + from, y -> y.table(0, 0, from, 1));
            Furnished.none(5, "from " + from + " ahead of 4", y -> y.table(0, 0, from, 60));
        }
        Furnished.none(5, "the last place's hour", y -> y.table(0, 0, LAST, 2));
        Furnished.none(5, "the last place's hour", y -> y.table(0, 0, 99996, 5));
        Furnished.none(5, "the last place's hour ahead of 4", y -> y.table(0, 0, 99990, 60));
    }

    private static void tablePlaces() {
        Rig.says("A TABLE: the place; STATUS 0 also with NONE: all are right");
        for (int wrong = 0; wrong < 60; wrong++) {
            TideDiscs x = Rig.with(COS_WAVE + "zero 1;");
            x.tray(2, 1, 60);
            for (int i = 0; i < 60; i++) {
                x.write(2, i, x.height(0, 500 + i, true));
            }
            Rig.fine("all are right", x, x.table(0, 2, 500, 60), NONE);
            x.write(2, wrong, x.read(2, wrong) + 1);
            Rig.fine("wrong at " + wrong, x, x.table(0, 2, 500, 60), wrong);
            if (wrong > 0) {
                Rig.fine("not so far", x, x.table(0, 2, 500, wrong), NONE);
            }
            x.write(2, 59, -999);
            Rig.fine("the first of two", x, x.table(0, 2, 500, 60), wrong);
        }
    }

    private static void tableSorts() {
        // 8 bits hold a HEIGHT of 108, but not one of 300
        TideDiscs x = Rig.with("zero 9;");
        for (int sort = 0; sort < 4; sort++) {
            x.tray(0, sort, 1);
            x.write(0, 0, 108);
            Rig.fine("sort " + sort, x, x.table(0, 0, 0, 1), NONE);
        }
        x = Rig.with("zero 25;");
        for (int sort = 0; sort < 4; sort++) {
            x.tray(0, sort, 1);
            x.write(0, 0, 300);
            Rig.fine("sort " + sort, x, x.table(0, 0, 0, 1), sort == 0 ? 0 : NONE);
        }
        x.write(0, 0, (1L << 32) + 300);
        Rig.fine("64 bits", x, x.table(0, 0, 0, 1), 0);
        // TURNED, not TRUE
        x = Rig.with(COS_WAVE);
        Rig.fill(x, 0, 12, 12, 10);
        Rig.fine("turned", x, x.table(0, 0, 0, 3), NONE);
        Rig.fill(x, 0, 12, 10, 6);
        Rig.fine("true", x, x.table(0, 0, 0, 3), 1);
    }

    private static void tableRefused() {
        for (int t : new int[] {-1, 5, LEAST, MOST}) {
            Furnished.none(1, "tray " + t, x -> x.table(0, t, 0, 1));
            Furnished.none(1, "tray " + t + " ahead of 2, 5", x -> x.table(2, t, -1, 0));
        }
        for (int m : NO_MACHINES) {
            Furnished.none(2, "machine " + m, x -> x.table(m, 0, 0, 1));
            Furnished.none(2, "machine " + m + " ahead of 3, 5", x -> x.table(m, Furnished.MISSING_TRAY, -1, 0));
        }
        Furnished.none(3, "missing", x -> x.table(0, Furnished.MISSING_TRAY, 0, 1));
        Furnished.none(3, "missing ahead of so many", x -> x.table(0, Furnished.MISSING_TRAY, 0, 61));
        Furnished.none(3, "missing ahead of an hour", x -> x.table(0, Furnished.MISSING_TRAY, 100000, 1));
    }
}
