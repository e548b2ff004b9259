/** Promises 38 to 50: DAYS, WEAR, trades, ORDERS, a TABLE. */
public final class DaysAndOrdersTest {
    private static final int NONE = TideDiscs.NONE;
    private static final String COS_WAVE = "wave a turns 1 in 24 size 1;";
    /** 172 STEPS by four. */
    private static final String MANY = "loop 9;loop 9;mark;mark;end;end;";

    public static void main(String[] args) {
        waters();
        longWaters();
        water();
        range();
        gap();
        worn();
        lasts();
        trade();
        tradeTies();
        orders();
        ordersFaults();
        ordersTooMany();
        obeySteps();
        obeyUntil();
        obeyOver();
        obeyMost();
        obeyed();
        marked();
        table();
        Rig.end();
    }

    private static void waters() {
        Rig.promise(38);
        // TRUE: high at 12, 24, 36 .., low at 6, 18 ..; TURNED: a day long, high at 23 and 47, low at 11 and 35
        TideDiscs x = Rig.with("wave a turns 1 in 12 size 1 train 9 9;");
        Rig.fine("hour 0 is none", x, x.waters(0, 0, true, false), 1);
        Rig.fine("low", x, x.waters(0, 0, false, false), 2);
        Rig.fine("day 1", x, x.waters(0, 1, true, false), 2);
        Rig.fine("turned", x, x.waters(0, 1, true, true), 1);
        Rig.fine("turned low", x, x.waters(0, 1, false, true), 1);
        Rig.fine("the last day", x, x.waters(0, 4166, true, false), 2);
        Rig.fine("to 99999 alone", x, x.waters(0, 4166, false, false), 1);
        Rig.refused("day 4167", x, x.waters(0, 4167, true, false), 5);
        Rig.refused("day -1", x, x.waters(0, -1, true, false), 5);
        Rig.refused("no machine", x, x.waters(2, -1, true, false), 2);
        Rig.fine("nothing moves", x, x.waters(1, 0, true, false), 0);
        // every HOUR another turn of 12 PLACES: COS 12, -12, ..
        Rig.machine(x, 0, "wave a turns 1 in 2 size 1;");
        Rig.fine("quick", x, x.waters(0, 0, true, false), 11);
        Rig.fine("quick", x, x.waters(0, 1, true, false), 12);
        Rig.fine("quick low", x, x.waters(0, 0, false, false), 12);
    }

    /** The HOURS looked at go to 100,100. */
    private static void longWaters() {
        // PLACE 23 from 99,995 on, PLACE 2 from 100,100 on
        TideDiscs x = Rig.with("wave a turns 1 in 24 size 1 at 22 train 5 175;");
        Rig.fine("falls at 100,100", x, x.waters(0, 4166, true, true), 1);
        Rig.fine("falls at 100,100", x, x.water(0, 4166, true, true, 0), 99995);
        // PLACE 23 from 99,918 on, PLACE 2 from 100,101 on
        Rig.machine(x, 0, "wave a turns 1 in 24 size 1 at 17 train 5 61 5 25;");
        Rig.fine("rises", x, x.height(0, 99918, true) - x.height(0, 99917, true), 2);
        Rig.fine("falls too late", x, x.waters(0, 4163, true, true), 0);
        // a rise behind the end of the DAY is none of it
        Rig.machine(x, 0, "wave a turns 1 in 2400 size 1 at 12;");
        Rig.fine("a long high", x, x.waters(0, 45, true, false), 1);
        Rig.fine("at its first hour", x, x.water(0, 45, true, false, 0), 1100);
        Rig.fine("a rise that goes on", x, x.waters(0, 41, true, false), 0);
    }

    private static void water() {
        Rig.promise(39);
        TideDiscs x = Rig.with("wave a turns 1 in 12 size 1 train 9 9;");
        Rig.fine("low 0", x, x.water(0, 0, false, false, 0), 6);
        Rig.fine("low 1", x, x.water(0, 0, false, false, 1), 18);
        Rig.refused("low 2", x, x.water(0, 0, false, false, 2), 8);
        Rig.fine("high 1", x, x.water(0, 1, true, false, 1), 36);
        Rig.refused("high -1", x, x.water(0, 1, true, false, -1), 8);
        Rig.refused("far", x, x.water(0, 1, true, false, Integer.MAX_VALUE), 8);
        Rig.fine("turned", x, x.water(0, 1, true, true, 0), 47);
        Rig.fine("the last day", x, x.water(0, 4166, true, false, 1), 99996);
        Rig.refused("day", x, x.water(0, 4167, true, false, -1), 5);
        Rig.refused("day", x, x.water(0, -1, true, false, 0), 5);
        Rig.refused("no machine", x, x.water(2, 4167, true, false, 0), 2);
    }

    private static void range() {
        Rig.promise(40);
        TideDiscs x = Rig.with("wave a turns 1 in 48 size 2 train 5 5; zero 9;");
        Rig.fine("true", x, x.range(0, 0, false), 48);
        Rig.fine("true", x, x.range(0, 1, false), 48);
        Rig.fine("turned", x, x.range(0, 0, true), 48);
        // PLACES 0 to 7 alone, for HOURS above 99,999 do not count
        Rig.fine("the last day", x, x.range(0, 4166, false), 30);
        Rig.machine(x, 0, "wave a turns 1 in 24 size 2 train 5 200;");
        Rig.fine("hardly turned", x, x.range(0, 0, true), 0);
        Rig.refused("day", x, x.range(0, 4167, false), 5);
        Rig.refused("day", x, x.range(0, -1, false), 5);
        Rig.refused("no machine", x, x.range(2, -1, false), 2);
    }

    private static void gap() {
        Rig.promise(41);
        TideDiscs x = Rig.with("wave a turns 1 in 12 size 1 train 9 9;");
        Rig.fine("to the next day", x, x.gap(0, 0, false, 0), 12);
        Rig.fine("within the day", x, x.gap(0, 1, false, 0), 12);
        Rig.fine("turned", x, x.gap(0, 0, true, 0), 24);
        Rig.refused("none such", x, x.gap(0, 0, false, 1), 8);
        Rig.refused("none such", x, x.gap(0, 0, false, -1), 8);
        Rig.fine("the last but one", x, x.gap(0, 4166, false, 0), 12);
        Rig.refused("not above 99999", x, x.gap(0, 4166, false, 1), 8);
        Rig.refused("day", x, x.gap(0, 4167, false, 0), 5);
        Rig.refused("day", x, x.gap(0, -1, false, 0), 5);
        Rig.refused("no machine", x, x.gap(2, -1, false, 0), 2);
        Rig.machine(x, 0, "wave a turns 1 in 200 size 1;");
        Rig.fine("200 hours", x, x.gap(0, 8, false, 0), 200);
        Rig.machine(x, 0, "wave a turns 1 in 201 size 1;");
        Rig.fine("there it is", x, x.water(0, 8, true, false, 0), 193);
        Rig.refused("201 hours", x, x.gap(0, 8, false, 0), 8);
    }

    private static void worn() {
        Rig.promise(42);
        TideDiscs x = Rig.with("wave a turns 1 in 24 train 7 10 9 11; wave b turns 1 in 24 train 200 5; wave c turns 1 in 24;");
        long[] by100 = {29, 29, 26, 26};
        long[] by24 = {7, 7, 6, 6};
        for (int k = 0; k < 4; k++) {
            Rig.fine("wheel " + k, x, x.worn(0, 0, k, 100), by100[k]);
            Rig.fine("wheel " + k, x, x.worn(0, 0, k, 24), by24[k]);
            Rig.fine("wheel " + k, x, x.worn(0, 0, k, 0), 0);
        }
        Rig.fine("long", x, x.worn(0, 1, 1, 99999), 833325);
        Rig.refused("one couple", x, x.worn(0, 1, 2, 1), 8);
        Rig.refused("one couple", x, x.worn(0, 1, 3, 1), 8);
        Rig.refused("no train", x, x.worn(0, 2, 0, 1), 8);
        Rig.refused("hours", x, x.worn(0, 2, 0, 100000), 5);
        Rig.refused("hours", x, x.worn(0, 2, 0, -1), 5);
        Rig.refused("no wheel", x, x.worn(0, 0, 4, -1), 2);
        Rig.refused("no wheel", x, x.worn(0, 0, -1, 1), 2);
        Rig.refused("no wave", x, x.worn(0, 3, 0, -1), 2);
        Rig.refused("no machine", x, x.worn(2, 0, 0, -1), 2);
        Rig.machine(x, 0, "wave a turns 1 in 24 train 200 5 200 5;");
        Rig.fine("much", x, x.worn(0, 0, 3, 99999), 33333000);
    }

    private static void lasts() {
        Rig.promise(43);
        TideDiscs x = Rig.with("wave a turns 1 in 24 train 7 10 9 11; wave c turns 1 in 24;");
        Rig.fine("29", x, x.lasts(0, 29), 100);
        Rig.fine("30", x, x.lasts(0, 30), 103);
        Rig.fine("7", x, x.lasts(0, 7), 24);
        Rig.machine(x, 0, "wave a turns 1 in 24 train 5 5 200 5; wave b turns 1 in 24 train 50 5;");
        Rig.fine("by the second couple", x, x.lasts(0, 100), 12);
        Rig.fine("at once", x, x.lasts(0, 1), 1);
        // 200 teeth a DAY: 833,325 in 99,999 HOURS
        Rig.fine("the last hour", x, x.lasts(0, 833325), 99999);
        Rig.refused("none does", x, x.lasts(0, 833326), 8);
        Rig.machine(x, 0, "wave a turns 1 in 24 train 200 5 200 5;");
        Rig.fine("the greatest limit", x, x.lasts(0, 9999999), 30000);
        Rig.refused("limit", x, x.lasts(0, 10000000), 5);
        Rig.refused("limit", x, x.lasts(0, 0), 5);
        Rig.refused("no train", x, x.lasts(1, 1), 8);
        Rig.refused("no machine", x, x.lasts(2, 0), 2);
    }

    private static void trade() {
        Rig.promise(44);
        TideDiscs x = Rig.with("wave z turns 1 in 24; wave a turns 1 in 24 train 10 30;");
        Rig.promise(45);
        Rig.refused("ahead of any", x, x.traded(0), 8);
        Rig.promise(44);
        // 2/3 of a PLACE, rounded down; no wheel to trade it for
        Rig.fine("one machine", x, x.trade(1), 666);
        Rig.fine("one machine", x, x.trade(3), 2000);
        Rig.promise(45);
        Rig.refused("none is traded", x, x.traded(0), 8);
        Rig.promise(44);
        Rig.machine(x, 1, "wave b turns 1 in 24 train 7 10;");
        // 666 and 300; 7 30 and 10 10: 766 and 0; 10 10 and 7 30 do as well
        Rig.fine("the first of two", x, x.trade(1), 766);
        Rig.promise(45);
        int[] wants = {1, 0, 0, 0};
        for (int what = 0; what < 4; what++) {
            Rig.fine("what " + what, x, x.traded(what), wants[what]);
        }
        Rig.refused("what", x, x.traded(4), 5);
        Rig.refused("what", x, x.traded(-1), 5);
        Rig.promise(44);
        Rig.fine("nothing is changed", x, x.wave(0, 1, 4), 10);
        Rig.refused("hours", x, x.trade(100000), 5);
        Rig.refused("hours", x, x.trade(-1), 5);
        Rig.promise(45);
        Rig.fine("it stays", x, x.traded(0), 1);
        Rig.promise(44);
        Rig.fine("no hours", x, x.trade(0), 0);
        Rig.promise(45);
        Rig.refused("none of several", x, x.traded(0), 8);
    }

    private static void tradeTies() {
        Rig.promise(45);
        // 10 by 20 wants its 20 to be a 10: wheel 3 of b in MACHINE 1, for there 20 x 10 by (10 x 20) fits
        TideDiscs x = Rig.with("wave a turns 1 in 24 train 10 20;");
        Rig.machine(x, 1, "wave c turns 1 in 24 train 9 9; wave b turns 1 in 24 train 20 10 10 10;");
        Rig.fine("all fit then", x, x.trade(1000), 0);
        int[] wants = {0, 0, 1, 0};
        for (int what = 0; what < 4; what++) {
            Rig.fine("what " + what, x, x.traded(what), wants[what]);
        }
        // far off by long: sums above 32 bits
        Rig.machine(x, 0, "wave a turns 9999 in 1 train 5 200 5 200;");
        Rig.machine(x, 1, "");
        Rig.fine("far", x, x.trade(99999), (24L * 9999 * 1600 - 1) * 99999 * 1000 / 1600);
    }

    private static void orders() {
        Rig.promise(46);
        TideDiscs x = new TideDiscs();
        Rig.fine("one of each", x, Rig.orders(x,
            "go 0;until high;until\nlow;until above less 9999 ;until below 0;mark;read;loop 9;end;when below less 0;end;"), 9);
        Rig.fine("nested three deep", x, Rig.orders(x, "loop 1;when above 1;loop 1;mark;end;end;loop 1;end;end;"), 5);
        Rig.fine("an empty text", x, x.orders(0), 0);
        Rig.feed(x, "mark;mark;");
        Rig.refused("below 0", x, x.orders(-1), 5);
        Rig.refused("more than there are", x, x.orders(21), 5);
        Rig.fine("5 keeps the tape", x, x.orders(5), 1);
        Rig.refused("the tape is empty", x, x.orders(1), 5);
        for (int i = 0; i < 16; i++) {
            x.feed(0x20202020, 0x20202020, 0x20202020, 0x20202020, 0x20202020);
        }
        Rig.refused("above 300", x, x.orders(301), 5);
        Rig.fine("300", x, x.orders(300), 0);
        Rig.refused("the tape is empty", x, x.orders(1), 5);
        Rig.orders(x, "mark;mark;");
        Rig.refused("a fault", x, Rig.orders(x, "mark;x;"), 10);
        Rig.refused("the tape is empty", x, x.orders(1), 5);
        x.obey(0, 5);
        Rig.fine("the old ones stay", x, x.obeyed(0), 2);
        Rig.fine("machines are no orders", x, Rig.machine(x, 0, "zero 1;"), 0);
        x.obey(0, 5);
        Rig.fine("the old ones stay", x, x.obeyed(0), 2);
    }

    private static void ordersFaults() {
        Rig.badOrders("#", 1, 0);
        Rig.badOrders("go 12345;", 1, 3);
        Rig.badOrders("mark;\u0000", 1, 5);
        Rig.badOrders("until less", 2, 6);
        Rig.badOrders("until above #", 1, 12);
        Rig.badOrders(";", 2, 0);
        Rig.badOrders("5;", 2, 0);
        Rig.badOrders("wave", 2, 0);
        Rig.badOrders("go;", 2, 2);
        Rig.badOrders("go less 5;", 2, 3);
        Rig.badOrders("go 5", 2, 4);
        Rig.badOrders("go 5 ", 2, 5);
        Rig.badOrders("mark 5;", 2, 5);
        Rig.badOrders("read", 2, 4);
        Rig.badOrders("until above;", 2, 11);
        Rig.badOrders("until above less;", 2, 16);
        Rig.badOrders("until above less less 5;", 2, 17);
        Rig.badOrders("when low;", 2, 5);
        Rig.badOrders("when below 5 6;", 2, 13);
        Rig.badOrders("end;", 2, 0);
        Rig.badOrders("loop 2; end; end;", 2, 13);
        Rig.badOrders("loop 2; end", 2, 11);
        Rig.badOrders("loop 2; mark;", 2, 13);
        Rig.badOrders("loop 2; when above 3; end;", 2, 26);
        Rig.badOrders("loop 0;", 4, 5);
        Rig.badOrders("loop 10;", 4, 5);
        Rig.badOrders("loop 10 #", 4, 5);
        Rig.badOrders("loop 1;when above 1;loop 1;when", 5, 27);
        Rig.badOrders("loop 1;when above 1;loop 1;end;loop 1;loop 1;", 5, 38);
    }

    private static void ordersTooMany() {
        String forty = "mark;".repeat(40);
        TideDiscs x = new TideDiscs();
        Rig.fine("forty", x, Rig.orders(x, forty), 40);
        Rig.badOrders(forty + "read", 6, 200);
        Rig.badOrders(forty + "end", 2, 200);
        String deep = "loop 1;loop 1;loop 1;" + "mark;".repeat(37);
        Rig.fine("end is none", x, Rig.orders(x, deep + "end;end;end;"), 40);
        Rig.badOrders(deep + "loop", 5, deep.length());
        Rig.badOrders(deep + "mark", 6, deep.length());
        String loops = "loop 1;end;".repeat(20) + "loop 1;end;".repeat(7);
        Rig.fine("rows of loops", x, Rig.orders(x, loops), 27);
    }

    private static void obeySteps() {
        Rig.promise(47);
        TideDiscs x = Rig.with("wave a turns 1 in 12 size 1 train 9 9; zero 1;");
        // HEIGHT TURNED is 12 and COS of the HOUR
        Rig.orders(x, "go 5;mark;go 0;mark;read;go 7;read;");
        Rig.fine("the hour at the end", x, x.obey(0, 0), 12);
        told(x, 7, 15 + 0, 2, 0);
        Rig.fine("mark 0", x, x.marked(0), 5);
        Rig.fine("mark 1", x, x.marked(1), 5);
        Rig.orders(x, "loop 3;mark;loop 2;go 10;end;end;read;");
        Rig.fine("loops", x, x.obey(0, 0), 60);
        told(x, 1 + 3 * 4 + 1, 0, 3, 0);
        Rig.fine("mark 2", x, x.marked(2), 40);
        Rig.orders(x, "when above 23;mark;end;when above 24;go 1;end;when below 25;go 2;end;when below 22;go 100;end;");
        Rig.fine("when", x, x.obey(0, 0), 2);
        told(x, 6, 0, 1, 0);
        Rig.orders(x, "loop 9;end;loop 2;loop 3;end;end;mark;");
        Rig.fine("empty loops", x, x.obey(0, 7), 7);
        told(x, 1 + 1 + 2 + 1, 0, 1, 0);
        Rig.orders(x, "loop 4;when above 20;go 3;end;go 1;end;");
        // 0, 4 (18), 5, 6, 7
        Rig.fine("when in a loop", x, x.obey(0, 0), 7);
        told(x, 1 + 4 * 2 + 1, 0, 0, 0);
        Rig.fine("another machine", x, x.obey(1, 0), 4);
        Rig.refused("hour", x, x.obey(0, 100000), 5);
        Rig.refused("hour", x, x.obey(0, -1), 5);
        Rig.refused("no machine", x, x.obey(2, -1), 2);
        Rig.fine("what was refused told nothing", x, x.obeyed(0), 9);
    }

    private static void told(TideDiscs x, int steps, int register, int marks, int left) {
        Rig.fine("steps", x, x.obeyed(0), steps);
        Rig.fine("register", x, x.obeyed(1), register);
        Rig.fine("marks", x, x.obeyed(2), marks);
        Rig.fine("left", x, x.obeyed(3), left);
    }

    private static void obeyUntil() {
        TideDiscs x = Rig.with(COS_WAVE);
        until(x, "above 0", 1, 2);
        until(x, "above 0", 5, 19);
        until(x, "above less 12", 10, 14);
        until(x, "below less 11", 0, 11);
        until(x, "below 3", 0, 6);
        until(x, "high", 22, 23);
        until(x, "high", 23, 47);
        until(x, "low", 0, 11);
        until(x, "low", 11, 35);
        Rig.machine(x, 0, "wave a turns 1 in 12 size 1 train 9 9; zero 2;");
        until(x, "high", 0, 23);
        until(x, "low", 0, 11);
        until(x, "below 13", 0, 11);
        until(x, "above 35", 2, 23);
    }

    private static void until(TideDiscs x, String what, int from, int want) {
        Rig.due("orders until " + what, Rig.orders(x, "until " + what + ";"), 1);
        Rig.fine("until " + what + " from " + from, x, x.obey(0, from), want);
        told(x, 1, 0, 0, 0);
    }

    private static void obeyOver() {
        TideDiscs x = Rig.with(COS_WAVE);
        Rig.orders(x, "go 9;mark;");
        Rig.fine("just not over", x, x.obey(0, 99990), 99999);
        told(x, 2, 0, 1, 0);
        Rig.fine("over", x, x.obey(0, 99991), 99999);
        told(x, 1, 0, 0, 1);
        Rig.orders(x, "mark;go 9999;");
        Rig.fine("over with the last step", x, x.obey(0, 99999), 99999);
        told(x, 2, 0, 1, 0);
        Rig.orders(x, "loop 2;go 9999;end;");
        Rig.fine("over in a loop", x, x.obey(0, 95000), 99999);
        told(x, 2, 0, 0, 1);
        Rig.orders(x, "loop 1;go 9999;end;");
        Rig.fine("over with the last round", x, x.obey(0, 95000), 99999);
        told(x, 2, 0, 0, 0);
        for (String never : new String[] {"high", "above 12", "below less 12", "above 9999", "below less 9999"}) {
            Rig.orders(x, "read;until " + never + ";mark;");
            Rig.fine("never " + never, x, x.obey(0, 99984), 99999);
            told(x, 2, 12, 0, 1);
        }
        Rig.orders(x, "until below less 7;mark;");
        Rig.fine("the last hour is met", x, x.obey(0, 99998), 99999);
        told(x, 2, 0, 1, 0);
        Rig.orders(x, "read;until above 12;mark;");
        Rig.fine("from the last hour", x, x.obey(0, 99999), 99999);
        told(x, 2, -8, 0, 1);
        // the last LOW WATER is at 99,995
        Rig.orders(x, "until low;until low;");
        Rig.fine("low twice", x, x.obey(0, 99990), 99999);
        told(x, 2, 0, 0, 0);
        Rig.orders(x, "until high;");
        Rig.fine("nothing moves", x, x.obey(1, 0), 99999);
        told(x, 1, 0, 0, 0);
    }

    private static void obeyMost() {
        TideDiscs x = Rig.with(COS_WAVE);
        most(x, "mark;".repeat(28), 200, 0);
        most(x, "mark;".repeat(29), 200, 1);
        most(x, "mark;".repeat(27), 199, 0);
        most(x, "mark;".repeat(26) + "loop 2;mark;end;", 200, 1);
        most(x, "mark;".repeat(26) + "loop 1;mark;end;", 200, 0);
        most(x, "mark;".repeat(27) + "when above 999;mark;end;", 200, 0);
        most(x, "mark;".repeat(27) + "when above 0;mark;end;", 200, 1);
        most(x, "mark;".repeat(27) + "loop 9;end;", 200, 0);
        most(x, "mark;".repeat(27) + "loop 9;end;loop 1;end;", 200, 1);
    }

    private static void most(TideDiscs x, String more, int steps, int left) {
        Rig.due("orders", Rig.orders(x, MANY + more) > 0, true);
        Rig.fine("obey", x, x.obey(0, 0), 0);
        told(x, steps, 0, 30, left);
    }

    private static void obeyed() {
        Rig.promise(48);
        TideDiscs x = Rig.with(COS_WAVE);
        for (int what = 0; what < 4; what++) {
            Rig.refused("ahead of any", x, x.obeyed(what), 8);
        }
        Rig.refused("what", x, x.obeyed(4), 5);
        Rig.refused("what", x, x.obeyed(-1), 5);
        Rig.refused("obey", x, x.obey(2, 0), 2);
        Rig.refused("there was none", x, x.obeyed(0), 8);
        Rig.orders(x, "go 12;loop 9;read;end;");
        Rig.fine("obey", x, x.obey(0, 0), 12);
        told(x, 11, -108, 0, 0);
        x.orders(0);
        x.machine(0, 0);
        Rig.fine("what was done stays", x, x.obeyed(1), -108);
        Rig.fine("obey", x, x.obey(0, 3), 3);
        told(x, 0, 0, 0, 0);
        // -1 is no NONE
        Rig.machine(x, 0, "wave a turns 1 in 24 size 1 at 7; wave b turns 1 in 24 size 1 at 2; wave c turns 1 in 24 size 1 at 9;");
        Rig.orders(x, "read;");
        x.obey(0, 0);
        Rig.fine("-1", x, x.obeyed(1), -1);
    }

    private static void marked() {
        Rig.promise(49);
        TideDiscs x = Rig.with(COS_WAVE);
        Rig.refused("ahead of any", x, x.marked(0), 8);
        Rig.orders(x, "loop 4;loop 8;mark;go 1;end;end;");
        Rig.fine("obey", x, x.obey(0, 100), 132);
        told(x, 69, 0, 30, 0);
        for (int k = 0; k < 30; k++) {
            Rig.fine("mark " + k, x, x.marked(k), 100 + k);
        }
        Rig.refused("the first 30", x, x.marked(30), 8);
        Rig.refused("-1", x, x.marked(-1), 8);
        x.obey(0, 100000);
        Rig.fine("it stays", x, x.marked(29), 129);
        x.orders(0);
        x.obey(0, 0);
        Rig.refused("none this time", x, x.marked(0), 8);
    }

    private static void table() {
        Rig.promise(50);
        TideDiscs x = Rig.with("wave a turns 1 in 12 size 1 train 9 9;");
        Rig.fill(x, 0, 12, 12, 10, 8, 6, 3, 0);
        Rig.fine("all are right", x, x.table(0, 0, 0, 7), NONE);
        Rig.fine("from 24 on", x, x.table(0, 0, 24, 7), NONE);
        Rig.fine("from 1 on", x, x.table(0, 0, 1, 7), 1);
        x.write(0, 6, 1);
        Rig.fine("the last place", x, x.table(0, 0, 0, 7), 6);
        Rig.fine("not asked for", x, x.table(0, 0, 0, 6), NONE);
        Rig.refused("too few", x, x.table(0, 0, 0, 8), 4);
        Rig.refused("none", x, x.table(0, 0, 0, 0), 5);
        Rig.refused("61", x, x.table(0, 0, 0, 61), 5);
        Rig.refused("hour", x, x.table(0, 0, -1, 8), 5);
        Rig.refused("hour", x, x.table(0, 0, 100000, 1), 5);
        Rig.refused("the last place's hour", x, x.table(0, 0, 99999, 2), 5);
        Rig.fine("the last hour", x, x.table(0, 0, 99999, 1), 0);
        x.write(0, 0, -8);
        Rig.fine("the last hour", x, x.table(0, 0, 99999, 1), NONE);
        x.tray(4, 3, 60);
        Rig.fine("60 places", x, x.table(1, 4, 99940, 60), NONE);
        x.write(4, 59, 1L << 32);
        Rig.fine("64 bits", x, x.table(1, 4, 99940, 60), 59);
        Rig.refused("missing", x, x.table(0, 1, -1, 0), 3);
        Rig.refused("no machine", x, x.table(2, 1, -1, 0), 2);
        Rig.refused("no machine", x, x.table(-1, 0, 0, 1), 2);
        Rig.refused("no tray", x, x.table(2, 5, 0, 0), 1);
        Rig.refused("no tray", x, x.table(0, -1, 0, 0), 1);
    }
}
