/** Promises 23 to 30: SETTINGS, what changed, a CLOCK, a ZERO, a NEIGHBOUR, a wheel led to. */
public final class GaugeTest {
    private static final int[] COS = {
        12, 12, 10, 8, 6, 3, 0, -3, -6, -8, -10, -12, -12, -12, -10, -8, -6, -3, 0, 3, 6, 8, 10, 12
    };
    private static final int GAP = 1000;

    public static void main(String[] args) {
        settingsOfOne();
        settingsOfTwo();
        settingsRefused();
        gaugeRefused();
        changed();
        slipped();
        slippedTies();
        zeroMoved();
        neighbour();
        led();
        wheel();
        Rig.end();
    }

    private static int cos(int place) {
        return COS[Math.floorMod(place, 24)];
    }

    private static void settingsOfOne() {
        Rig.promise(23);
        // AT does not count: PLACES 0, 6, 12, 18 have COS 12 0 -12 0 and SIN 0 12 0 -12
        TideDiscs x = Rig.with("wave a turns 1 in 24 size 9 at 5 train 5 9;");
        Rig.fill(x, 0, 0, 6, 12, 18, 3);
        Rig.fill(x, 1, 10, 20, 7, -5, GAP);
        Rig.fine("mean", x, x.settings(0, 0, 0, 0, 1, 5, 0));
        Rig.fraction("mean", x, 8, 1);
        Rig.fine("cos", x, x.settings(0, 0, 0, 0, 1, 5, 1));
        Rig.fraction("cos", x, 1, 8);
        Rig.fine("sin", x, x.settings(0, 0, 0, 0, 1, 5, 2));
        Rig.fraction("sin", x, 25, 24);
        Rig.fine("three readings are met", x, x.settings(0, 0, 0, 0, 1, 3, 0));
        Rig.fraction("mean", x, 17, 2);
        Rig.fine("sin", x, x.settings(0, 0, 0, 0, 1, 3, 2));
        Rig.fraction("sin", x, 23, 24);
        Rig.fine("none but gaps and zeros", x, x.write(1, 0, 0));
        x.write(1, 1, 0);
        x.write(1, 2, 0);
        x.write(1, 3, 0);
        Rig.fine("nothing", x, x.settings(0, 0, 0, 0, 1, 5, 1));
        Rig.fraction("nothing", x, 0, 1);
    }

    private static void settingsOfTwo() {
        TideDiscs x = Rig.with("wave a turns 1 in 24 at 3; wave b turns 1 in 12 at 9;");
        long[] hours = new long[24];
        long[] read = new long[24];
        for (int h = 0; h < 24; h++) {
            hours[h] = h;
            read[h] = 7 + 3 * cos(h) - 2 * cos(h - 6) + 5 * cos(2 * h) + 11 * cos(2 * h - 6);
        }
        read[5] = GAP;
        read[17] = GAP;
        Rig.fill(x, 0, hours);
        Rig.fill(x, 1, read);
        long[] wants = {7, 3, -2, 5, 11};
        long[] swapped = {7, 5, 11, 3, -2};
        for (int what = 0; what < 5; what++) {
            Rig.fine("part " + what, x, x.settings(0, 0, 1, 0, 1, 24, what));
            Rig.fraction("part " + what, x, wants[what], 1);
            Rig.fine("part " + what, x, x.settings(0, 1, 0, 0, 1, 24, what));
            Rig.fraction("part " + what, x, swapped[what], 1);
        }
        // the greatest numbers there may be: nothing wraps around
        for (int h = 0; h < 24; h++) {
            x.write(1, h, h % 3 == 0 ? 999 : -999);
        }
        for (int what = 0; what < 5; what++) {
            Rig.fine("far part " + what, x, x.settings(0, 0, 1, 0, 1, 24, what));
            Rig.due("far bottom " + what, x.bottom() > 0, true);
        }
        Rig.fine("far mean", x, x.settings(0, 0, 1, 0, 1, 24, 0));
        Rig.fraction("far mean", x, -333, 1);
    }

    private static void settingsRefused() {
        TideDiscs x = Rig.with("wave a turns 1 in 24; wave b turns 2 in 48; wave c turns 1 in 5;");
        long[] hours = {0, 1, 2, 3, 4, 5, 6, 7};
        Rig.fill(x, 0, hours);
        Rig.fill(x, 1, hours);
        Rig.refused("two alike can't be parted", x, x.settings(0, 0, 1, 0, 1, 8, 0), 9);
        Rig.fine("unlike ones can", x, x.settings(0, 0, 2, 0, 1, 8, 0));
        long top = x.top();
        long bottom = x.bottom();
        Rig.refused("two readings", x, x.settings(0, 0, 0, 0, 1, 2, 0), 9);
        Rig.refused("four readings of two", x, x.settings(0, 0, 2, 0, 1, 4, 0), 9);
        for (int i = 2; i < 8; i++) {
            x.write(1, i, GAP);
        }
        Rig.refused("gaps but two", x, x.settings(0, 0, 0, 0, 1, 8, 0), 9);
        x.write(1, 0, GAP);
        x.write(1, 1, GAP);
        Rig.refused("gaps alone", x, x.settings(0, 0, 0, 0, 1, 8, 0), 9);
        Rig.refused("what 5", x, x.settings(0, 0, 2, 0, 1, 8, 5), 5);
        Rig.refused("what -1", x, x.settings(0, 0, 2, 0, 1, 8, -1), 5);
        Rig.refused("what 3 of one", x, x.settings(0, 2, 2, 0, 1, 9, 3), 5);
        Rig.refused("what 4 of one", x, x.settings(0, 2, 2, 0, 1, 8, 4), 5);
        Rig.refused("none", x, x.settings(0, 0, 0, 0, 1, 0, 0), 5);
        Rig.refused("25", x, x.settings(0, 0, 0, 0, 1, 25, 0), 5);
        Rig.refused("too few", x, x.settings(0, 0, 0, 0, 1, 9, 0), 4);
        Rig.refused("missing", x, x.settings(0, 0, 0, 0, 2, 25, 0), 3);
        Rig.refused("missing", x, x.settings(0, 0, 0, 2, 0, 25, 0), 3);
        Rig.refused("no wave", x, x.settings(0, 3, 0, 2, 0, 25, 0), 2);
        Rig.refused("no wave", x, x.settings(0, 0, 3, 2, 0, 25, 0), 2);
        Rig.refused("no machine", x, x.settings(2, 0, 0, 2, 0, 25, 0), 2);
        Rig.refused("no tray", x, x.settings(2, 0, 0, 5, 0, 25, 0), 1);
        Rig.refused("no tray", x, x.settings(2, 0, 0, 0, -1, 25, 0), 1);
        Rig.fraction("what was told stays", x, top, bottom);
    }

    /** Numbers that can't be, in all calls by a GAUGE. */
    private static void gaugeRefused() {
        TideDiscs x = Rig.with("wave a turns 1 in 24 size 5;");
        long[][] bad = {{-1, 0}, {100000, 0}, {0, -1000}, {0, 1001}};
        for (long[] b : bad) {
            Rig.fill(x, 0, 0, 6, 12, b[0], 7);
            Rig.fill(x, 1, 0, 0, 0, b[1], 0);
            Rig.refused("settings", x, x.settings(0, 0, 0, 0, 1, 4, 0), 5);
            Rig.refused("changed", x, x.changed(0, 0, 0, 0, 1, 0, 1, 4, 0), 5);
            Rig.refused("slipped", x, x.slipped(0, 0, 1, 4, 0), 5);
            Rig.refused("neighbour", x, x.neighbour(0, 0, 1, 4), 5);
            Rig.refused("led", x, x.led(0, 0, 1, 4), 5);
            Rig.fine("not among them", x, x.settings(0, 0, 0, 0, 1, 3, 0));
            Rig.refused("too few is asked first", x, x.slipped(0, 0, 1, 6, 0), 4);
        }
        Rig.fill(x, 0, 0, 99999, 12);
        Rig.fill(x, 1, -999, 999, GAP);
        Rig.fine("the edges can be", x, x.led(0, 0, 1, 3), -1);
        x.write(0, 2, -1);
        Rig.refused("an hour of a gap, too", x, x.led(0, 0, 1, 3), 5);
        x.tray(0, 3, 1);
        x.write(0, 0, 1L << 32);
        Rig.refused("64 bits", x, x.neighbour(0, 0, 1, 1), 5);
    }

    private static void changed() {
        Rig.promise(24);
        TideDiscs x = Rig.with("wave a turns 1 in 24; wave b turns 1 in 12;");
        long[] hours = new long[24];
        long[] one = new long[24];
        long[] then = new long[24];
        for (int h = 0; h < 24; h++) {
            hours[h] = h;
            one[h] = 5 * cos(h) - 2 * cos(h - 6) + 3 * cos(2 * h);
            then[h] = 40 + 5 * cos(h) + 1 * cos(h - 6) + 7 * cos(2 * h);
        }
        Rig.fill(x, 0, hours);
        Rig.fill(x, 1, one);
        Rig.fill(x, 2, hours);
        Rig.fill(x, 3, then);
        // SIN's part of a by 3, COS's of b by 4
        Rig.fine("both", x, x.changed(0, 0, 1, 0, 1, 2, 3, 24, 2), 3);
        Rig.fine("b", x, x.changed(0, 0, 1, 0, 1, 2, 3, 24, 3), 2);
        Rig.fine("b, named first", x, x.changed(0, 1, 0, 2, 3, 0, 1, 24, 3), 2);
        Rig.fine("none", x, x.changed(0, 0, 1, 0, 1, 2, 3, 24, 4), 0);
        Rig.fine("a alone", x, x.changed(0, 0, 0, 0, 1, 2, 3, 24, 0), 1);
        Rig.fine("b alone", x, x.changed(0, 1, 1, 0, 1, 2, 3, 24, 0), 2);
        // parts are rounded towards 0 ahead of it: 23/24 is 0, -23/24 is 0
        Rig.fill(x, 0, 0, 6, 12, 18);
        Rig.fill(x, 1, 23, 0, 0, 0);
        Rig.fill(x, 3, 0, 0, 23, 0);
        x.pour(0, 0, 2, 0, 4);
        Rig.fine("both are 0 rounded", x, x.changed(0, 0, 0, 0, 1, 2, 3, 4, 0), 0);
        x.write(1, 0, 24);
        Rig.fine("one is 1", x, x.changed(0, 0, 0, 0, 1, 2, 3, 4, 0), 1);
        Rig.fine("by 1", x, x.changed(0, 0, 0, 0, 1, 2, 3, 4, 1), 0);
        Rig.refused("the number", x, x.changed(0, 0, 0, 0, 1, 2, 3, 5, -1), 5);
        Rig.refused("the number", x, x.changed(0, 0, 0, 0, 1, 2, 3, 4, 1000), 5);
        Rig.fine("its edge", x, x.changed(0, 0, 0, 0, 1, 2, 3, 4, 999), 0);
        Rig.refused("so many", x, x.changed(0, 0, 0, 0, 1, 2, 3, 0, 0), 5);
        Rig.refused("so many", x, x.changed(0, 0, 0, 0, 1, 2, 3, 25, 0), 5);
        Rig.refused("too few in one of four", x, x.changed(0, 0, 0, 2, 2, 2, 3, 5, 0), 4);
        Rig.refused("not parted", x, x.changed(0, 0, 1, 0, 1, 2, 3, 4, 0), 9);
        x.write(3, 1, GAP);
        x.write(3, 2, GAP);
        Rig.refused("the second not parted", x, x.changed(0, 0, 0, 0, 1, 2, 3, 4, 0), 9);
        x.write(3, 1, 1001);
        Rig.refused("a number of the second", x, x.changed(0, 0, 0, 0, 1, 2, 3, 4, 0), 5);
        Rig.refused("missing", x, x.changed(0, 0, 0, 0, 1, 2, 4, 25, 0), 3);
        Rig.refused("missing", x, x.changed(0, 0, 0, 0, 1, 4, 3, 4, 0), 3);
        Rig.refused("no wave", x, x.changed(0, 0, 2, 0, 1, 2, 4, 25, 0), 2);
        Rig.refused("no machine", x, x.changed(2, 0, 0, 0, 1, 2, 4, 25, 0), 2);
        Rig.refused("no tray", x, x.changed(2, 0, 0, 0, 1, 2, 5, 25, 0), 1);
        Rig.refused("no tray", x, x.changed(2, 0, 0, 0, 1, -1, 3, 25, 0), 1);
        Rig.fraction("no fraction is told", x, 0, 1);
    }

    private static void slipped() {
        Rig.promise(25);
        TideDiscs x = Rig.with("wave a turns 1 in 24 size 36; zero 10;");
        Rig.refused("ahead of any", x, x.slip(), 8);
        long[] hours = new long[20];
        long[] read = new long[20];
        for (int i = 0; i < 20; i++) {
            hours[i] = 2 * i;
            read[i] = 10 + 3 * cos(2 * i + (i < 7 ? 0 : -5));
        }
        Rig.fill(x, 0, hours);
        Rig.fill(x, 1, read);
        Rig.fine("from 7 on", x, x.slipped(0, 0, 1, 20, 0), 7);
        Rig.promise(26);
        Rig.fine("by -5", x, x.slip(), -5);
        Rig.promise(25);
        x.write(1, 6, GAP);
        Rig.fine("the lesser of several", x, x.slipped(0, 0, 1, 20, 0), 6);
        for (int i = 0; i < 20; i++) {
            x.write(1, i, 10 + 3 * cos(2 * i));
        }
        Rig.fine("none", x, x.slipped(0, 0, 1, 20, 0), 0);
        Rig.fine("by 0", x, x.slip(), 0);
        Rig.refused("what", x, x.slipped(0, 0, 1, 21, 2), 5);
        Rig.refused("what", x, x.slipped(0, 0, 1, 20, -1), 5);
        Rig.refused("so many", x, x.slipped(0, 0, 1, 0, 0), 5);
        Rig.refused("so many", x, x.slipped(0, 0, 1, 25, 0), 5);
        Rig.refused("too few", x, x.slipped(0, 0, 1, 21, 0), 4);
        Rig.refused("missing", x, x.slipped(0, 0, 2, 25, 2), 3);
        Rig.refused("no machine", x, x.slipped(-1, 0, 2, 25, 2), 2);
        Rig.refused("no tray", x, x.slipped(-1, 0, 5, 25, 2), 1);
        Rig.promise(26);
        Rig.fine("slip stays", x, x.slip(), 0);
    }

    private static void slippedTies() {
        Rig.promise(25);
        // HOURS below 0 are 0: at HOUR 0 -1 can't be told from 0, so the first reading is met by 0 alone
        TideDiscs x = Rig.with("wave a turns 1 in 12 size 12;");
        Rig.fill(x, 0, 1);
        Rig.fill(x, 1, 12);
        // COS of 2 is 10; by -1 it is 12, by 1 6
        Rig.fine("one reading", x, x.slipped(0, 0, 1, 1, 0), 0);
        Rig.fine("by -1", x, x.slip(), -1);
        // -1 and 1 do as well: the lesser one
        Rig.fill(x, 0, 6);
        Rig.fill(x, 1, -9);
        Rig.fine("two do as well", x, x.slipped(0, 0, 1, 1, 0), 0);
        Rig.fine("the lesser one", x, x.slip(), -1);
        Rig.fill(x, 0, 0);
        Rig.fill(x, 1, 0);
        // from HOUR 0 the only way to COS 0 is 3 HOURS later
        Rig.fine("not below 0", x, x.slipped(0, 0, 1, 1, 0), 0);
        Rig.fine("later", x, x.slip(), 3);
        Rig.fill(x, 0, 99999);
        Rig.fill(x, 1, 6);
        // HOUR 99,999 has PLACE 6, COS 0; HOUR 100,001, PLACE 10, COS -10; HOUR 99,998, PLACE 4, COS 6
        Rig.fine("the last hour", x, x.slipped(0, 0, 1, 1, 0), 0);
        Rig.fine("earlier", x, x.slip(), -1);
        x.write(1, 0, -10);
        Rig.fine("above the last hour", x, x.slipped(0, 0, 1, 1, 0), 0);
        Rig.fine("later", x, x.slip(), 2);
        // HEIGHT by 12 is rounded towards 0: -3 x 5 by 12 is -1
        // a clock is off by 5 HOURS at the most: 6 HOURS later it would be 0, 5 HOURS later it is 3
        x = Rig.with("wave a turns 1 in 24 size 12 train 5 5 200 5;");
        Rig.fill(x, 0, 0);
        Rig.fill(x, 1, 0);
        Rig.fine("at most 5", x, x.slipped(0, 0, 1, 1, 0), 0);
        Rig.fine("TRUE, not turned", x, x.slip(), 5);
        Rig.fill(x, 0, 2);
        Rig.fill(x, 1, 10);
        Rig.fine("TRUE", x, x.slipped(0, 0, 1, 1, 1), 0);
        Rig.fine("by 0", x, x.slip(), 0);
        x = Rig.with("wave a turns 1 in 24 size 5;");
        Rig.fill(x, 0, 7);
        Rig.fill(x, 1, -1);
        Rig.fine("towards 0", x, x.slipped(0, 0, 1, 1, 1), 0);
        Rig.fine("by 0", x, x.slip(), 0);
    }

    private static void zeroMoved() {
        TideDiscs x = Rig.with("wave a turns 1 in 24 size 12; zero 3;");
        long[] hours = new long[8];
        for (int i = 0; i < 8; i++) {
            hours[i] = i;
        }
        Rig.fill(x, 0, hours);
        Rig.fill(x, 1, 15, 15, 13, 61, 59, 56, 53, 50);
        Rig.fine("from 3 on", x, x.slipped(0, 0, 1, 8, 1), 3);
        Rig.promise(26);
        Rig.fine("by 50", x, x.slip(), 50);
        for (int i = 3; i < 8; i++) {
            x.write(1, i, 3 + cos(i) - 60);
        }
        Rig.fine("from 3 on", x, x.slipped(0, 0, 1, 8, 1), 3);
        Rig.fine("at most by -50", x, x.slip(), -50);
        // half of them 2 below, half 2 above: by -2 from 4 on is as good as by 2 from 6 on; the lesser first
        Rig.fill(x, 1, 15, 15, 13, 11, 7, 4, 5, 2);
        Rig.fine("of several", x, x.slipped(0, 0, 1, 8, 1), 6);
        Rig.fine("what comes to least", x, x.slip(), 2);
    }

    private static void neighbour() {
        Rig.promise(27);
        TideDiscs x = Rig.with("wave a turns 1 in 24 size 60 at 2; wave b turns 1 in 12 size 30; zero 50;");
        Rig.promise(28);
        Rig.refused("ahead of any", x, x.lag(), 8);
        Rig.promise(27);
        long[] hours = new long[24];
        long[] read = new long[24];
        for (int h = 0; h < 24; h++) {
            hours[h] = h;
            read[h] = (60 * cos(h + 2 - 17) + 30 * cos(2 * h - 17)) * 19 / 144;
        }
        read[3] = GAP;
        Rig.fill(x, 0, hours);
        Rig.fill(x, 1, read);
        Rig.fine("ratio", x, x.neighbour(0, 0, 1, 24), 19);
        Rig.promise(28);
        Rig.fine("lag", x, x.lag(), 17);
        Rig.promise(27);
        Rig.fill(x, 1, GAP);
        Rig.fine("gaps alone", x, x.neighbour(0, 0, 1, 1), 1);
        Rig.fine("lag", x, x.lag(), 0);
        // one reading of 5 at HOUR 0: 60 COS(2 - lag) + 30 COS(lag), by RATIO 1: lag 0 has 600 + 360 = 960, 6.67 is 6
        Rig.fill(x, 1, 6);
        Rig.fine("the lesser ratio", x, x.neighbour(0, 0, 1, 1), 1);
        Rig.fine("the lesser lag", x, x.lag(), 0);
        Rig.fill(x, 1, 7);
        // lag 1: 720 + 360 = 1080, 7.5 is 7
        Rig.fine("the lesser ratio", x, x.neighbour(0, 0, 1, 1), 1);
        Rig.fine("its lag", x, x.lag(), 1);
        // twice as high at the most
        Rig.machine(x, 0, "wave a turns 1 in 24 size 12 train 5 5 200 5;");
        Rig.fill(x, 0, 2);
        Rig.fill(x, 1, 24);
        Rig.fine("the greatest ratio", x, x.neighbour(0, 0, 1, 1), 24);
        Rig.fine("PLACE 1, TRUE", x, x.lag(), 1);
        x.write(1, 0, 999);
        Rig.fine("no greater ratio", x, x.neighbour(0, 0, 1, 1), 24);
        Rig.fine("lag", x, x.lag(), 1);
        Rig.refused("so many", x, x.neighbour(0, 0, 1, 25), 5);
        Rig.refused("so many", x, x.neighbour(0, 0, 1, 0), 5);
        Rig.refused("too few", x, x.neighbour(0, 0, 1, 2), 4);
        Rig.refused("missing", x, x.neighbour(0, 0, 2, 25), 3);
        Rig.refused("no machine", x, x.neighbour(2, 0, 2, 25), 2);
        Rig.refused("no tray", x, x.neighbour(2, 5, 2, 25), 1);
        Rig.promise(28);
        Rig.fine("lag stays", x, x.lag(), 1);
    }

    private static void led() {
        Rig.promise(29);
        String rest = " 30; wave c turns 1 in 24 size 50 train 40 41 42 43; zero 2;";
        TideDiscs x = Rig.with("wave a turns 1 in 30 size 10; wave b turns 1 in 24 size 60 train 31" + rest);
        Rig.promise(30);
        Rig.refused("ahead of any", x, x.wheel(0), 8);
        Rig.promise(29);
        Rig.machine(x, 1, "wave a turns 1 in 30 size 10; wave b turns 1 in 24 size 60 train 30" + rest);
        long[] hours = new long[24];
        for (int i = 0; i < 24; i++) {
            hours[i] = 1000 + 37 * i;
        }
        Rig.fill(x, 0, hours);
        readOf(x, 0, hours);
        Rig.fine("the machine itself", x, x.led(0, 0, 1, 24), -1);
        Rig.promise(30);
        Rig.refused("no wheel", x, x.wheel(0), 8);
        Rig.refused("no wheel", x, x.wheel(1), 8);
        Rig.promise(29);
        readOf(x, 1, hours);
        Rig.fine("one tooth less", x, x.led(0, 0, 1, 24), 1);
        Rig.promise(30);
        Rig.fine("the driver", x, x.wheel(0), 0);
        Rig.fine("less", x, x.wheel(1), 0);
        Rig.promise(29);
        String other = "wave a turns 1 in 30 size 10; wave b turns 1 in 24 size 60 train 31 30;"
            + "wave c turns 1 in 24 size 50 train 40 41 42 44; zero 2;";
        Rig.machine(x, 1, other);
        readOf(x, 1, hours);
        x.write(1, 4, GAP);
        Rig.fine("one tooth more", x, x.led(0, 0, 1, 24), 2);
        Rig.promise(30);
        Rig.fine("the last driven one", x, x.wheel(0), 3);
        Rig.fine("more", x, x.wheel(1), 1);
        Rig.promise(29);
        Rig.refused("so many", x, x.led(0, 0, 1, 25), 5);
        Rig.refused("so many", x, x.led(0, 0, 1, 0), 5);
        x.tray(2, 2, 23);
        Rig.refused("too few", x, x.led(0, 0, 2, 24), 4);
        Rig.refused("missing", x, x.led(0, 3, 2, 25), 3);
        Rig.refused("no machine", x, x.led(2, 3, 2, 25), 2);
        Rig.refused("no tray", x, x.led(2, 3, -2, 25), 1);
        Rig.promise(30);
        Rig.fine("it stays", x, x.wheel(0), 3);
        // the least and the greatest wheels may have a tooth less, a tooth more
        x = Rig.with("wave a turns 1 in 24 size 99 train 200 5;");
        Rig.fill(x, 0, 1, 4, 8);
        Rig.fill(x, 1, 99 * cos(50) / 12, 99 * cos(200) / 12, 99 * cos(400) / 12);
        Rig.fine("4 teeth", x, x.led(0, 0, 1, 3), 0);
        Rig.fine("the driven one", x, x.wheel(0), 1);
        Rig.fine("less", x, x.wheel(1), 0);
    }

    private static void readOf(TideDiscs x, int machine, long[] hours) {
        x.tray(1, 2, hours.length);
        for (int i = 0; i < hours.length; i++) {
            x.write(1, i, x.height(machine, (int) hours[i], true) / 12);
        }
    }

    private static void wheel() {
        Rig.promise(30);
        TideDiscs x = Rig.with("wave a turns 1 in 24 size 12 train 10 10;");
        Rig.refused("what", x, x.wheel(2), 5);
        Rig.refused("what", x, x.wheel(-1), 5);
        // at HOUR 20 PLACE 20 COS 6; 11 by 10: PLACE 22 COS 10; 9 by 10: 18 COS 0; 10 by 11: 18; 10 by 9: 22
        Rig.fill(x, 0, 20);
        Rig.fill(x, 1, 10);
        Rig.fine("two do as well", x, x.led(0, 0, 1, 1), 0);
        Rig.fine("the lesser wheel", x, x.wheel(0), 0);
        Rig.fine("more", x, x.wheel(1), 1);
        x.write(1, 0, 0);
        x.led(0, 0, 1, 1);
        Rig.fine("the lesser wheel", x, x.wheel(0), 0);
        Rig.fine("less", x, x.wheel(1), 0);
        x.write(1, 0, 8);
        Rig.fine("none does as well", x, x.led(0, 0, 1, 1), -1);
        Rig.refused("no wheel", x, x.wheel(0), 8);
    }
}
