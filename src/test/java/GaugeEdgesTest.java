import java.math.BigInteger;
import java.util.function.Consumer;

/** The edges of promises 23 to 30: the GAUGE with its GAPS, SETTINGS, a CLOCK, a ZERO, a NEIGHBOUR, a wheel led to. */
public final class GaugeEdgesTest {
    private static final int NONE = TideDiscs.NONE;
    private static final int LEAST = Integer.MIN_VALUE;
    private static final int MOST = Integer.MAX_VALUE;
    private static final int GAP = 1000;
    private static final int READINGS = Furnished.READINGS;
    private static final int MISSING = Furnished.MISSING_TRAY;
    private static final int[] COS = {
        12, 12, 10, 8, 6, 3, 0, -3, -6, -8, -10, -12, -12, -12, -10, -8, -6, -3, 0, 3, 6, 8, 10, 12
    };
    private static final Consumer<TideDiscs> AT_ONCE = x -> { };

    public static void main(String[] args) {
        gaugeTrays();
        gaugeMachines();
        gaugeLengths();
        gaugeHours();
        gaugeReadings();
        gaugeOrder();
        gaps();
        settingsWhat();
        settingsWaves();
        settingsNotParted();
        settingsParted();
        settingsJustParted();
        settingsGreatest();
        changedNumber();
        changedByMore();
        changedRounded();
        changedSets();
        changedRefused();
        slippedBy();
        slippedFrom();
        slippedBelowZero();
        slippedAboveTheLast();
        slippedOfSeveral();
        zeroMoved();
        slippedWhat();
        slipTold();
        neighbourRatio();
        neighbourLag();
        neighbourRounded();
        neighbourOfSeveral();
        lagTold();
        ledByATooth();
        ledRounded();
        ledOfSeveral();
        ledByNone();
        wheelTold();
        Rig.end();
    }

    private static int cos(int place) {
        return COS[Math.floorMod(place, 24)];
    }

    private static TideDiscs with(String text, long[] hours, long[] read) {
        TideDiscs x = Rig.with(text);
        Rig.fill(x, 0, hours);
        Rig.fill(x, 1, read);
        return x;
    }

    private static long[] row(long... numbers) {
        return numbers;
    }

    /** All calls by a GAUGE refuse it with this STATUS; those that have two, in either place. */
    private static void allRefuse(int status, String what, Consumer<TideDiscs> first, int m, int hours, int read, int many) {
        Furnished.no(status, "settings, " + what, first, x -> x.settings(m, 0, 0, hours, read, many, 0));
        Furnished.none(status, "changed, " + what, first, x -> x.changed(m, 0, 0, hours, read, 0, 1, many, 0));
        Furnished.none(status, "changed then, " + what, first, x -> x.changed(m, 0, 0, 0, 1, hours, read, many, 0));
        Furnished.none(status, "a clock, " + what, first, x -> x.slipped(m, hours, read, many, 0));
        Furnished.none(status, "a zero, " + what, first, x -> x.slipped(m, hours, read, many, 1));
        Furnished.none(status, "neighbour, " + what, first, x -> x.neighbour(m, hours, read, many));
        Furnished.none(status, "led, " + what, first, x -> x.led(m, hours, read, many));
    }

    /** All calls by a GAUGE take it. */
    private static void allTake(String what, Consumer<TideDiscs> first, int many) {
        for (int call = 0; call < 6; call++) {
            TideDiscs x = Furnished.make();
            first.accept(x);
            switch (call) {
                case 0: x.settings(0, 0, 0, 0, 1, many, 0); break;
                case 1: x.changed(0, 0, 0, 0, 1, 0, 1, many, 0); break;
                case 2: x.slipped(0, 0, 1, many, 0); break;
                case 3: x.slipped(0, 0, 1, many, 1); break;
                case 4: x.neighbour(0, 0, 1, many); break;
                default: x.led(0, 0, 1, many); break;
            }
            // one reading or two part no WAVE
            Rig.due("status of call " + call + ", " + what, x.status(), call < 2 && many < 3 ? 9 : 0);
        }
    }

    // ---- the GAUGE

    private static void gaugeTrays() {
        Rig.says("A GAUGE: HOURS (0 to 99,999) in one TRAY, what was read in another one");
        for (int t : new int[] {-1, 5, LEAST, MOST}) {
            allRefuse(1, "hours in tray " + t, AT_ONCE, 0, t, 1, READINGS);
            allRefuse(1, "read in tray " + t, AT_ONCE, 0, 0, t, READINGS);
        }
        allRefuse(3, "no hours", AT_ONCE, 0, MISSING, 1, READINGS);
        allRefuse(3, "nothing read", AT_ONCE, 0, 0, MISSING, READINGS);
        allRefuse(3, "neither", AT_ONCE, 0, MISSING, MISSING, READINGS);
        // any of the TRAYS, of any sort
        for (int sort = 0; sort < 4; sort++) {
            TideDiscs x = Rig.with("wave a turns 1 in 24 size 12;");
            x.tray(3, sort, 2);
            x.write(3, 1, 2);
            x.tray(4, 3 - sort, 2);
            x.write(4, 0, 12);
            x.write(4, 1, 10);
            Rig.fine("sorts " + sort + ", " + (3 - sort), x, x.slipped(0, 3, 4, 2, 0), 0);
            Rig.fine("as it is set", x, x.slip(), 0);
        }
    }

    private static void gaugeMachines() {
        for (int m : new int[] {-1, 2, LEAST, MOST}) {
            allRefuse(2, "machine " + m, AT_ONCE, m, 0, 1, READINGS);
        }
    }

    private static void gaugeLengths() {
        Rig.says("1,000: a GAP, nothing was read), 1 to 24 of them.");
        for (int many : new int[] {0, -1, 25, LEAST, MOST}) {
            allRefuse(5, many + " readings", AT_ONCE, 0, 0, 1, many);
        }
        allTake("one reading", AT_ONCE, 1);
        allTake("two readings", AT_ONCE, 2);
        allTake("as many as there are", AT_ONCE, READINGS);
        allTake("24", GaugeEdgesTest::lengthen, 24);
        Rig.says("4 a place that the TRAY has not, or too few numbers.");
        for (int many : new int[] {READINGS + 1, 24}) {
            allRefuse(4, many + " readings", AT_ONCE, 0, 0, 1, many);
        }
        allRefuse(4, "an empty tray of hours", AT_ONCE, 0, Furnished.EMPTY_TRAY, 1, 1);
        allRefuse(4, "an empty tray of readings", AT_ONCE, 0, 0, Furnished.EMPTY_TRAY, 1);
        Consumer<TideDiscs> shorter = x -> x.tray(1, 2, READINGS - 1);
        Furnished.none(4, "one reading too few", shorter, x -> x.neighbour(0, 0, 1, READINGS));
        shorter = x -> x.tray(0, 2, READINGS - 1);
        Furnished.none(4, "one hour too few", shorter, x -> x.neighbour(0, 0, 1, READINGS));
        // a TRAY may have more than are asked for
        Consumer<TideDiscs> longer = x -> {
            lengthen(x);
            x.tray(1, 2, 60);
        };
        allTake("24 of 60", longer, 24);
        allRefuse(5, "25 of 60", longer, 0, 0, 1, 25);
    }

    private static void lengthen(TideDiscs x) {
        x.tray(0, 2, 24);
        x.tray(1, 2, 24);
        for (int i = 0; i < 24; i++) {
            x.write(0, i, 5 * i);
        }
    }

    private static void gaugeHours() {
        Rig.says("HOURS (0 to 99,999) in one TRAY");
        for (int i : new int[] {0, READINGS - 1}) {
            for (long hour : new long[] {-1, 100000, LEAST, MOST}) {
                allRefuse(5, "hour " + hour, x -> x.write(0, i, hour), 0, 0, 1, READINGS);
            }
            for (long hour : new long[] {0, 99999}) {
                allTake("hour " + hour, x -> x.write(0, i, hour), READINGS);
            }
        }
        for (long hour : new long[] {1L << 32, (1L << 32) + 5, Long.MIN_VALUE, Long.MAX_VALUE}) {
            Consumer<TideDiscs> wide = x -> {
                x.tray(0, 3, READINGS);
                x.write(0, 2, hour);
            };
            allRefuse(5, "hour " + hour, wide, 0, 0, 1, READINGS);
        }
        allTake("behind the last one asked for", x -> x.write(0, READINGS - 1, -1), READINGS - 1);
    }

    private static void gaugeReadings() {
        Rig.says("what was read in another one (-999 to 999; 1,000: a GAP, nothing was read)");
        for (int i : new int[] {0, READINGS - 1}) {
            for (long read : new long[] {-1000, 1001, LEAST, MOST}) {
                allRefuse(5, "read " + read, x -> x.write(1, i, read), 0, 0, 1, READINGS);
            }
            for (long read : new long[] {-999, 999, 1000}) {
                allTake("read " + read, x -> x.write(1, i, read), READINGS);
            }
        }
        for (long read : new long[] {1L << 32, (1L << 32) + 1000, Long.MIN_VALUE, Long.MAX_VALUE}) {
            Consumer<TideDiscs> wide = x -> {
                x.tray(1, 3, READINGS);
                x.write(1, 2, read);
            };
            allRefuse(5, "read " + read, wide, 0, 0, 1, READINGS);
        }
        allTake("behind the last one asked for", x -> x.write(1, READINGS - 1, 1001), READINGS - 1);
        Consumer<TideDiscs> gapWithoutHour = x -> {
            x.write(1, 3, GAP);
            x.write(0, 3, -1);
        };
        allRefuse(5, "an hour that can't be, with a gap", gapWithoutHour, 0, 0, 1, READINGS);
    }

    private static void gaugeOrder() {
        Rig.says("(1; 2; 3; 5: so many; 4; 5: a number; in this order)");
        Consumer<TideDiscs> spoil = x -> x.write(0, 0, -1);
        allRefuse(1, "1 ahead of 2, 3, 5", spoil, 2, MISSING, 5, 25);
        allRefuse(1, "1 ahead of 2, 3, 5", spoil, -1, -1, MISSING, 0);
        allRefuse(2, "2 ahead of 3, 5", spoil, 2, MISSING, 1, 25);
        allRefuse(2, "2 ahead of 5, 4", spoil, 2, 0, Furnished.EMPTY_TRAY, 0);
        allRefuse(3, "3 ahead of 5", spoil, 0, MISSING, 1, 25);
        allRefuse(3, "3 ahead of 5", spoil, 0, 0, MISSING, 0);
        allRefuse(3, "3 ahead of 4", spoil, 0, MISSING, Furnished.EMPTY_TRAY, 1);
        allRefuse(5, "5 ahead of 4", spoil, 0, 0, Furnished.EMPTY_TRAY, 25);
        allRefuse(4, "4 ahead of a number", spoil, 0, 0, 1, READINGS + 1);
        allRefuse(5, "a number ahead of 9", spoil, 0, 0, 1, 1);
    }

    private static void gaps() {
        Rig.says("1,000: a GAP, nothing was read");
        // a GAP is not met by anything, and not missed by anything: 999 would be
        TideDiscs x = with("wave a turns 1 in 24 size 12;", row(0, 1, 2, 3, 4), row(12, GAP, 10, GAP, 6));
        Rig.fine("a clock", x, x.slipped(0, 0, 1, 5, 0), 0);
        Rig.fine("by 0", x, x.slip(), 0);
        Rig.fine("a zero", x, x.slipped(0, 0, 1, 5, 1), 0);
        Rig.fine("by 0", x, x.slip(), 0);
        Rig.fine("a neighbour", x, x.neighbour(0, 0, 1, 5), 12);
        Rig.fine("lag", x, x.lag(), 0);
        x = with("wave a turns 1 in 24 size 12;", row(0, 6, 12, 18, 3, 9), row(22, 10, -2, 10, GAP, GAP));
        Rig.fine("cos's part", x, x.settings(0, 0, 0, 0, 1, 6, 1));
        Rig.fraction("cos's part", x, 1, 1);
        Rig.fine("mean", x, x.settings(0, 0, 0, 0, 1, 6, 0));
        Rig.fraction("mean", x, 10, 1);
        // nothing but GAPS
        long[] hours = new long[24];
        long[] read = new long[24];
        for (int i = 0; i < 24; i++) {
            hours[i] = i;
            read[i] = GAP;
        }
        x = with("wave a turns 1 in 24 size 12 train 10 10;", hours, read);
        Rig.fine("a clock", x, x.slipped(0, 0, 1, 24, 0), 0);
        Rig.fine("by 0", x, x.slip(), 0);
        Rig.fine("a zero", x, x.slipped(0, 0, 1, 24, 1), 0);
        Rig.fine("by 0", x, x.slip(), 0);
        Rig.fine("a neighbour", x, x.neighbour(0, 0, 1, 24), 1);
        Rig.fine("lag", x, x.lag(), 0);
        Rig.fine("led to none", x, x.led(0, 0, 1, 24), NONE);
        Rig.refused("not parted", x, x.settings(0, 0, 0, 0, 1, 24, 0), 9);
        Rig.refused("not parted", x, x.changed(0, 0, 0, 0, 1, 0, 1, 24, 0), 9);
    }

    // ---- promise 23

    private static void settingsWhat() {
        Rig.says("what 0: the mean, 1, 2: COS's, SIN's part of the one, 3, 4: of the other");
        for (int what : new int[] {-1, 5, LEAST, MOST}) {
            Furnished.no(5, "what " + what, x -> x.settings(0, 0, 1, 0, 1, READINGS, what));
            Furnished.no(5, "what " + what + " of one wave", x -> x.settings(0, 0, 0, 0, 1, READINGS, what));
            Furnished.no(5, "what " + what + " ahead of 4", x -> x.settings(0, 0, 1, 0, 1, 24, what));
            Furnished.no(3, "3 ahead of what " + what, x -> x.settings(0, 0, 1, 0, MISSING, READINGS, what));
        }
        Rig.says("5: so many, what: 3, 4 of one WAVE alone, too;");
        for (int what : new int[] {3, 4}) {
            Furnished.no(5, "what " + what + " of one wave", x -> x.settings(0, 1, 1, 0, 1, READINGS, what));
            Furnished.no(5, "what " + what + " of one wave ahead of 4", x -> x.settings(0, 1, 1, 0, 1, 24, what));
        }
        long[] hours = new long[24];
        long[] read = new long[24];
        for (int h = 0; h < 24; h++) {
            hours[h] = h;
            read[h] = 7 + 3 * cos(h) - 2 * cos(h - 6) + 5 * cos(2 * h) + 11 * cos(2 * h - 6);
        }
        TideDiscs x = with("wave a turns 1 in 24; wave b turns 1 in 12;", hours, read);
        long[] wants = {7, 3, -2, 5, 11};
        for (int what = 0; what < 5; what++) {
            Rig.fine("what " + what, x, x.settings(0, 0, 1, 0, 1, 24, what));
            Rig.fraction("what " + what, x, wants[what], 1);
        }
        for (int what = 0; what < 3; what++) {
            Rig.fine("what " + what + " of one wave", x, x.settings(0, 1, 1, 0, 1, 24, what));
        }
    }

    private static void settingsWaves() {
        Rig.says("of one WAVE (other is the same), or of two unlike ones");
        for (int w : new int[] {-1, 3, 6, LEAST, MOST}) {
            Furnished.no(2, "the one is " + w, x -> x.settings(0, w, 0, 0, 1, READINGS, 0));
            Furnished.no(2, "the other is " + w, x -> x.settings(0, 0, w, 0, 1, READINGS, 0));
            Furnished.no(2, "both are " + w, x -> x.settings(0, w, w, 0, 1, READINGS, 0));
            Furnished.no(2, w + " ahead of 3", x -> x.settings(0, w, 0, MISSING, 1, READINGS, 0));
            Furnished.no(1, "1 ahead of " + w, x -> x.settings(0, w, 0, 5, 1, READINGS, 0));
            Furnished.none(2, "changed, the one is " + w, x -> x.changed(0, w, 0, 0, 1, 0, 1, READINGS, 0));
            Furnished.none(2, "changed, the other is " + w, x -> x.changed(0, 0, w, 0, 1, 0, 1, READINGS, 0));
        }
        Furnished.no(2, "wave 2 of machine 1", x -> x.settings(1, 2, 2, 0, 1, READINGS, 0));
        // SIZE, AT and TRAIN of the WAVE are no matter
        TideDiscs x = with("wave a turns 1 in 24 size 99 at 5 train 7 200; zero 9;", row(0, 6, 12, 18), row(13, 1, -11, 1));
        Rig.fine("as if at were 0", x, x.settings(0, 0, 0, 0, 1, 4, 1));
        Rig.fraction("cos's part", x, 1, 1);
        Rig.fine("as if at were 0", x, x.settings(0, 0, 0, 0, 1, 4, 2));
        Rig.fraction("sin's part", x, 0, 1);
    }

    private static void settingsNotParted() {
        Rig.says("none, if there are several such (the WAVES can't be PARTED by these HOURS).");
        String waves = "wave a turns 1 in 24; wave b turns 1 in 24 at 5 size 3; wave c turns 1 in 12; wave d turns 1 in 1;";
        long[] hours = {0, 6, 12, 18, 3, 9, 15, 21};
        TideDiscs x = with(waves, hours, row(1, 2, 3, 4, 5, 6, 7, 8));
        Rig.refused("one reading", x, x.settings(0, 0, 0, 0, 1, 1, 0), 9);
        Rig.refused("two readings", x, x.settings(0, 0, 0, 0, 1, 2, 0), 9);
        Rig.fine("three readings", x, x.settings(0, 0, 0, 0, 1, 3, 0));
        Rig.refused("two waves of one speed", x, x.settings(0, 0, 1, 0, 1, 8, 0), 9);
        Rig.refused("a wave that stands still", x, x.settings(0, 3, 3, 0, 1, 8, 0), 9);
        Rig.refused("a wave that stands still", x, x.settings(0, 0, 3, 0, 1, 8, 0), 9);
        Rig.refused("four readings for two waves", x, x.settings(0, 0, 2, 0, 1, 4, 0), 9);
        Rig.fine("eight readings for two waves", x, x.settings(0, 0, 2, 0, 1, 8, 0));
        x.write(1, 1, GAP);
        Rig.refused("a gap too many", x, x.settings(0, 0, 0, 0, 1, 3, 0), 9);
        Rig.fine("one more reading", x, x.settings(0, 0, 0, 0, 1, 4, 0));
        // the same HOUR, the same PLACE, told again parts nothing
        x = with(waves, row(0, 0, 0, 24, 48, 72), row(1, 2, 3, 4, 5, 6));
        Rig.refused("one place", x, x.settings(0, 0, 0, 0, 1, 6, 0), 9);
        x = with(waves, row(0, 6, 24, 30, 48, 54), row(1, 2, 3, 4, 5, 6));
        Rig.refused("two places", x, x.settings(0, 0, 0, 0, 1, 6, 0), 9);
        x = with(waves, row(0, 6, 0, 7, 48, 54), row(1, 2, 3, 4, 5, 6));
        Rig.fine("three places", x, x.settings(0, 0, 0, 0, 1, 6, 0));
        // PLACES 11, 12, 13 have COS -12 and SIN 3, 0, -3
        x = with(waves, row(11, 12, 13), row(1, 2, 3));
        Rig.refused("a row of like COS", x, x.settings(0, 0, 0, 0, 1, 3, 0), 9);
        Rig.refused("9 is not 5", x, x.settings(0, 0, 0, 0, 1, 1, 0), 9);
        Furnished.no(9, "not parted", y -> y.settings(0, 0, 0, 0, 1, 2, 0));
        Furnished.no(9, "not parted", y -> y.settings(0, 0, 1, 0, 1, 4, 4));
    }

    private static void settingsParted() {
        Rig.says("the squares of what they differ from what was read come to least together: FRACTIONS");
        // just three readings are met: 10 = m + 12 c, 4 = m + 12 s, 2 = m - 12 c
        TideDiscs x = with("wave a turns 1 in 24; wave b turns 1 in 8;", row(0, 6, 12), row(10, 4, 2));
        Rig.fine("mean", x, x.settings(0, 0, 0, 0, 1, 3, 0));
        Rig.fraction("mean", x, 6, 1);
        Rig.fine("cos", x, x.settings(0, 0, 0, 0, 1, 3, 1));
        Rig.fraction("cos", x, 1, 3);
        Rig.fine("sin", x, x.settings(0, 0, 0, 0, 1, 3, 2));
        Rig.fraction("sin", x, -1, 6);
        // two readings of one PLACE that differ: their mean is met
        Rig.fill(x, 0, 0, 6, 12, 24);
        Rig.fill(x, 1, 9, 4, 2, 11);
        Rig.fine("cos", x, x.settings(0, 0, 0, 0, 1, 4, 1));
        Rig.fraction("cos", x, 1, 3);
        Rig.fine("mean", x, x.settings(0, 0, 0, 0, 1, 4, 0));
        Rig.fraction("mean", x, 6, 1);
        // readings that come to -1, 0 and 1 together
        for (int sum = -1; sum <= 1; sum++) {
            x = with("wave a turns 1 in 24;", row(0, 6, 12, 18), row(5, sum, -5, 0));
            Rig.fine("mean", x, x.settings(0, 0, 0, 0, 1, 4, 0));
            Rig.fraction("mean", x, sum, sum == 0 ? 1 : 4);
            Rig.fine("sin", x, x.settings(0, 0, 0, 0, 1, 4, 2));
            Rig.fraction("sin", x, sum, sum == 0 ? 1 : 24);
            Rig.fine("cos", x, x.settings(0, 0, 0, 0, 1, 4, 1));
            Rig.fraction("cos", x, 5, 12);
        }
    }

    /** Five readings whose determinant is 1: the least bottom with which two WAVES are PARTED. */
    private static void settingsJustParted() {
        Rig.says("none, if there are several such (the WAVES can't be PARTED by these HOURS).");
        String waves = "wave a turns 1 in 24; wave b turns 1 in 576;";
        long[][] reads = {{1, 0, 0, 0, 0}, {0, 1, 0, 0, 0}, {0, 0, 0, 0, 1}, {999, -999, 999, -999, 999}};
        long[][] parts = {
            {-15834, -3618, -2613, 2042, -2500}, {5878, 1343, 970, -758, 928}, {-1387, -317, -229, 179, -219},
            {1163835, 265734, 191808, -149850, 183816}
        };
        for (int i = 0; i < reads.length; i++) {
            TideDiscs x = with(waves, row(253, 511, 280, 429, 526), reads[i]);
            for (int what = 0; what < 5; what++) {
                Rig.fine("just parted, what " + what, x, x.settings(0, 0, 1, 0, 1, 5, what));
                Rig.fraction("just parted, what " + what, x, parts[i][what], 1);
            }
            Rig.fine("nothing changed", x, x.changed(0, 0, 1, 0, 1, 0, 1, 5, 0), 0);
        }
    }

    private static void settingsGreatest() {
        Rig.says("SETTINGS of one WAVE or two by it: a mean, and of each WAVE how much of COS and of SIN of its TRUE PLACE");
        int[][] speeds = {{1, 24, 1, 12}, {5, 24, 7, 24}, {1, 24, 5, 25}, {9999, 240, 1, 11}};
        for (int[] s : speeds) {
            long[] hours = new long[24];
            long[] read = new long[24];
            for (int i = 0; i < 24; i++) {
                hours[i] = 99999 - 7 * i;
                read[i] = i * i % 5 < 2 ? 999 : -999;
            }
            TideDiscs x = with("wave a turns " + s[0] + " in " + s[1] + "; wave b turns " + s[2] + " in " + s[3] + ";", hours, read);
            BigInteger bottom = leastSquares(s, hours, read, NONE);
            for (int what = 0; what < 5; what++) {
                BigInteger top = leastSquares(s, hours, read, what);
                BigInteger divisor = top.gcd(bottom);
                Rig.fine("what " + what, x, x.settings(0, 0, 1, 0, 1, 24, what));
                Rig.fraction("what " + what, x, top.divide(divisor).longValueExact(), bottom.divide(divisor).longValueExact());
            }
        }
    }

    /** Cramer, with numbers as great as they come; a column (or none) is what was read. */
    private static BigInteger leastSquares(int[] s, long[] hours, long[] read, int column) {
        long[][] rows = new long[hours.length][];
        for (int i = 0; i < hours.length; i++) {
            int a = (int) (24L * s[0] * hours[i] / s[1] % 24);
            int b = (int) (24L * s[2] * hours[i] / s[3] % 24);
            rows[i] = new long[] {1, cos(a), cos(a - 6), cos(b), cos(b - 6)};
        }
        BigInteger[][] sums = new BigInteger[5][5];
        for (int r = 0; r < 5; r++) {
            for (int c = 0; c < 5; c++) {
                long sum = 0;
                for (int i = 0; i < hours.length; i++) {
                    sum += rows[i][r] * (c == column ? read[i] : rows[i][c]);
                }
                sums[r][c] = BigInteger.valueOf(sum);
            }
        }
        return determinant(sums);
    }

    private static BigInteger determinant(BigInteger[][] m) {
        if (m.length == 1) {
            return m[0][0];
        }
        BigInteger sum = BigInteger.ZERO;
        for (int c = 0; c < m.length; c++) {
            BigInteger[][] rest = new BigInteger[m.length - 1][m.length - 1];
            for (int i = 1; i < m.length; i++) {
                for (int j = 0; j < m.length - 1; j++) {
                    rest[i - 1][j] = m[i][j < c ? j : j + 1];
                }
            }
            BigInteger part = m[0][c].multiply(determinant(rest));
            sum = c % 2 == 0 ? sum.add(part) : sum.subtract(part);
        }
        return sum;
    }

    // ---- promise 24

    private static void changedNumber() {
        Rig.says("differs by more than a told number (0 to 999)");
        for (int more : new int[] {-1, 1000, LEAST, MOST}) {
            Furnished.none(5, "the number " + more, x -> x.changed(0, 0, 0, 0, 1, 0, 1, READINGS, more));
            Furnished.none(5, "the number " + more + " ahead of 4", x -> x.changed(0, 0, 0, 0, 1, 0, 1, 24, more));
            Furnished.none(3, "3 ahead of the number " + more, x -> x.changed(0, 0, 0, 0, 1, 0, MISSING, READINGS, more));
            Furnished.none(2, "2 ahead of the number " + more, x -> x.changed(0, 0, 3, 0, 1, 0, 1, READINGS, more));
        }
        // PLACES 0, 1, 2: m + 12 c, m + 12 c + 3 s, m + 10 c + 6 s
        TideDiscs x = with("wave a turns 1 in 24;", row(0, 1, 2), row(0, 0, 0));
        Rig.fill(x, 2, 0, 600, 6 * 200 - 2 * 999);
        Rig.fine("cos by just 999", x, x.changed(0, 0, 0, 0, 1, 0, 2, 3, 999), 0);
        Rig.fine("cos by just 999", x, x.changed(0, 0, 0, 0, 1, 0, 2, 3, 998), 1);
        Rig.fill(x, 2, 0, 600, 6 * 200 - 2 * 1000);
        Rig.fine("cos by 1000", x, x.changed(0, 0, 0, 0, 1, 0, 2, 3, 999), 1);
        Rig.fine("cos by -1000", x, x.changed(0, 0, 0, 0, 2, 0, 1, 3, 999), 1);
    }

    /** HOURS 0, 6, 12, 18 of a WAVE that turns once a DAY: COS's part is the first less the third by 24, SIN's the others. */
    private static TideDiscs changing(long[] one, long[] then) {
        TideDiscs x = with("wave a turns 1 in 24;", row(0, 6, 12, 18), one);
        Rig.fill(x, 2, 0, 6, 12, 18);
        Rig.fill(x, 3, then);
        return x;
    }

    private static int changedBy(long[] one, long[] then, int more) {
        TideDiscs x = changing(one, then);
        int set = x.changed(0, 0, 0, 0, 1, 2, 3, 4, more);
        Rig.due("status of changed", x.status(), 0);
        return set;
    }

    private static void changedByMore() {
        Rig.says("of which COS's or SIN's part (each rounded towards 0) differs by more than a told number");
        long[] none = {0, 0, 0, 0};
        Rig.due("nothing", changedBy(none, none, 0), 0);
        Rig.due("the mean alone", changedBy(none, row(50, 50, 50, 50), 0), 0);
        for (int sign = -1; sign <= 1; sign += 2) {
            long[] cos = {sign * 72, 0, 0, 0};
            long[] sin = {0, 0, 0, sign * 72};
            Rig.due("cos by 3, more than 2", changedBy(none, cos, 2), 1);
            Rig.due("cos by 3, not more than 3", changedBy(none, cos, 3), 0);
            Rig.due("sin by 3, more than 2", changedBy(none, sin, 2), 1);
            Rig.due("sin by 3, not more than 3", changedBy(none, sin, 3), 0);
            Rig.due("back by 3, more than 2", changedBy(cos, none, 2), 1);
            Rig.due("back by 3, not more than 3", changedBy(cos, none, 3), 0);
            Rig.due("sin back by 3, more than 2", changedBy(sin, none, 2), 1);
            Rig.due("sin back by 3, not more than 3", changedBy(sin, none, 3), 0);
            Rig.due("by 1, more than 0", changedBy(none, row(sign * 24, 0, 0, 0), 0), 1);
            Rig.due("cos one way, sin the other", changedBy(none, row(sign * 24, 0, 0, sign * 48), 1), 1);
        }
    }

    private static void changedRounded() {
        Rig.says("(each rounded towards 0)");
        long[] none = {0, 0, 0, 0};
        Rig.due("23 of 24 are 0", changedBy(none, row(23, 0, 0, 0), 0), 0);
        Rig.due("-23 of 24 are 0", changedBy(none, row(0, 0, 23, 0), 0), 0);
        Rig.due("both are 0", changedBy(row(23, 0, 0, 0), row(0, 0, 23, 0), 0), 0);
        Rig.due("47 of 24 are 1, -47 are -1", changedBy(row(47, 0, 0, 0), row(0, 0, 47, 0), 1), 1);
        Rig.due("that is by 2", changedBy(row(47, 0, 0, 0), row(0, 0, 47, 0), 2), 0);
        Rig.due("23 and 24 of 24", changedBy(row(23, 0, 0, 0), row(24, 0, 0, 0), 0), 1);
        Rig.due("24 and 47 of 24", changedBy(row(24, 0, 0, 0), row(47, 0, 0, 0), 0), 0);
        Rig.due("sin, 24 and 47 of 24", changedBy(row(0, 24, 0, 0), row(0, 47, 0, 0), 0), 0);
        Rig.due("sin, 24 and 48 of 24", changedBy(row(0, 24, 0, 0), row(0, 48, 0, 0), 0), 1);
        Rig.due("sin, -24 and -47 of 24", changedBy(row(0, 0, 0, 24), row(0, 0, 0, 47), 0), 0);
    }

    private static void changedSets() {
        Rig.says("What changed: a set, of two GAUGES (each in two TRAYS: hours and read, then and what), both of so many");
        StringBuilder text = new StringBuilder();
        for (int i = 0; i < 6; i++) {
            text.append("wave ").append((char) ('a' + i)).append(" turns ").append(i + 1).append(" in 24;");
        }
        for (int one = 0; one < 6; one++) {
            for (int other = 0; other < 6; other++) {
                // the one has changed by 3 in COS, or SIN; the other by 2 in SIN, or COS
                boolean byCos = (one + other) % 2 == 0;
                long[] hours = new long[24];
                long[] read = new long[24];
                for (int h = 0; h < 24; h++) {
                    hours[h] = h;
                    read[h] = 3 * cos((one + 1) * h - (byCos ? 0 : 6)) + (one == other ? 0 : 2 * cos((other + 1) * h - (byCos ? 6 : 0)));
                }
                TideDiscs x = with(text.toString(), hours, new long[24]);
                Rig.fill(x, 2, read);
                Rig.fine("both", x, x.changed(0, one, other, 0, 1, 0, 2, 24, 1), 1 << one | 1 << other);
                Rig.fine("the one", x, x.changed(0, one, other, 0, 1, 0, 2, 24, 2), 1 << one);
                Rig.fine("the one, named as the other", x, x.changed(0, other, one, 0, 2, 0, 1, 24, 2), 1 << one);
                Rig.fine("none", x, x.changed(0, one, other, 0, 1, 0, 2, 24, 3), 0);
            }
        }
    }

    private static void changedRefused() {
        Rig.says("(as settings(), each asked of all TRAYS in this order; 5: the number, too)");
        for (int t : new int[] {-1, 5}) {
            Furnished.none(1, "tray " + t, x -> x.changed(2, 0, 0, MISSING, 1, t, 1, 25, 0));
            Furnished.none(1, "tray " + t, x -> x.changed(2, 0, 0, MISSING, 1, 0, t, 25, 0));
            Furnished.none(1, "tray " + t, x -> x.changed(2, 0, 0, t, 1, 0, MISSING, 25, 0));
            Furnished.none(1, "tray " + t, x -> x.changed(2, 0, 0, 0, t, 0, MISSING, 25, 0));
        }
        Furnished.none(3, "missing then ahead of so many", x -> x.changed(0, 0, 0, 0, 1, 0, MISSING, 0, 0));
        Furnished.none(5, "so many ahead of 4", x -> x.changed(0, 0, 0, 0, 1, 0, Furnished.EMPTY_TRAY, 25, 0));
        Furnished.none(4, "too few then, ahead of a number now", x -> x.write(0, 0, -1),
            x -> x.changed(0, 0, 0, 0, 1, 0, 2, READINGS, 0));
        // a number of either GAUGE, if the other one is fine
        for (int[] bad : new int[][] {{0, -1}, {0, 100000}, {1, -1000}, {1, 1001}}) {
            TideDiscs y = changing(row(5, 5, 5, 5), row(9, 8, 7, 6));
            y.write(bad[0], 3, bad[1]);
            Rig.refused("a number of the first", y, y.changed(0, 0, 0, 0, 1, 2, 3, 4, 0), 5);
            Rig.refused("a number of the second", y, y.changed(0, 0, 0, 2, 3, 0, 1, 4, 0), 5);
            Rig.fine("not of the first three", y, y.changed(0, 0, 0, 0, 1, 2, 3, 3, 0), 0);
        }
        // TRAY 2 has 64 bits; a reading of 1 << 40 is asked ahead of 9
        Furnished.none(5, "a number then, ahead of not parted now", x -> x.changed(0, 0, 0, 0, 1, 0, 2, 3, 0));
        Furnished.none(9, "not parted now", x -> x.write(1, 0, GAP), x -> x.changed(0, 0, 0, 0, 1, 0, 0, 3, 0));
        Furnished.none(9, "not parted then", x -> x.write(1, 0, GAP), x -> x.changed(0, 0, 0, 0, 0, 0, 1, 3, 0));
        Furnished.none(9, "two waves by four", x -> x.changed(0, 0, 1, 0, 1, 0, 1, 4, 0));
        Furnished.none(9, "one wave by two", x -> x.changed(0, 0, 0, 0, 1, 0, 1, 2, 0));
        // no FRACTION is told by it
        TideDiscs x = changing(row(5, 5, 5, 5), row(9, 8, 7, 6));
        Rig.fine("changed", x, x.changed(0, 0, 0, 0, 1, 2, 3, 4, 0), 0);
        Rig.fraction("as it was", x, 0, 1);
    }

    // ---- promise 25

    /** Steep enough that a HOUR more or less is seen in each of these HOURS. */
    private static final String STEEP = "wave a turns 5 in 24 size 96; wave b turns 2 in 24 size 60; zero 7;";

    private static int steep(int hour) {
        return (96 * cos(5 * hour) + 60 * cos(2 * hour) + 84) / 12;
    }

    private static void slippedBy() {
        Rig.says("a CLOCK SLIPPED from the k-th reading on by d HOURS (-5 to 5; HOURS below 0 are 0)");
        for (int d = -5; d <= 5; d++) {
            long[] hours = new long[24];
            long[] read = new long[24];
            for (int i = 0; i < 24; i++) {
                hours[i] = 100 + 7 * i;
                read[i] = steep(100 + 7 * i + d);
            }
            TideDiscs x = with(STEEP, hours, read);
            Rig.fine("from the first on", x, x.slipped(0, 0, 1, 24, 0), 0);
            Rig.fine("by " + d, x, x.slip(), d);
        }
        // a HOUR further than it goes: 5 is the nearest that there is
        TideDiscs x = with("wave a turns 1 in 24 size 12;", row(1), row(-3));
        Rig.fine("6 later is -3, 5 later is 0", x, x.slipped(0, 0, 1, 1, 0), 0);
        Rig.fine("by 5 at the most", x, x.slip(), 5);
        x = with("wave a turns 1 in 24 size 12;", row(23), row(-3));
        Rig.fine("6 earlier is -3, 5 earlier is 0", x, x.slipped(0, 0, 1, 1, 0), 0);
        Rig.fine("by -5 at the most", x, x.slip(), -5);
    }

    private static void slippedFrom() {
        Rig.says("(ahead of k: in the HOUR)");
        for (int k = 0; k < 24; k++) {
            long[] hours = new long[24];
            long[] read = new long[24];
            for (int i = 0; i < 24; i++) {
                hours[i] = 200 + i;
                read[i] = i < k ? steep(200 + i) : steep(200 + i + 2);
            }
            // where both HOURS have one HEIGHT, the lesser k does as well
            int want = k;
            while (want > 0 && steep(200 + want - 1) == steep(200 + want + 1)) {
                want--;
            }
            TideDiscs x = with(STEEP, hours, read);
            Rig.fine("from " + k + " on", x, x.slipped(0, 0, 1, 24, 0), want);
            Rig.fine("by 2", x, x.slip(), 2);
            for (int i = 0; i < 24; i++) {
                x.write(1, i, steep(200 + i) - (i < k ? 0 : 9));
            }
            Rig.fine("a zero from " + k + " on", x, x.slipped(0, 0, 1, 24, 1), k);
            Rig.fine("by -9", x, x.slip(), -9);
        }
    }

    private static void slippedBelowZero() {
        Rig.says("HOURS below 0 are 0");
        // COS of HOUR 3 is 8; by -3, -4, -5 it is that of HOUR 0
        TideDiscs x = with("wave a turns 1 in 24 size 12;", row(3), row(12));
        Rig.fine("to hour 1", x, x.slipped(0, 0, 1, 1, 0), 0);
        Rig.fine("by -2", x, x.slip(), -2);
        // around the turn, HOUR -2 would have 10, and HOUR -4 6
        x = with("wave a turns 1 in 24 size 12 at 20;", row(1), row(3));
        // HOURS 0, 1, 2 have COS 6, 8, 10; HOUR -1 would have 3
        Rig.fine("not to hour -1", x, x.slipped(0, 0, 1, 1, 0), 0);
        Rig.fine("by -1, and no further", x, x.slip(), -1);
        x = with("wave a turns 1 in 24 size 12 at 20;", row(0), row(3));
        Rig.fine("hour 0 stays it", x, x.slipped(0, 0, 1, 1, 0), 0);
        Rig.fine("by 0", x, x.slip(), 0);
        // HOURS 0 and 9: only the second one goes back by 5
        x = with("wave a turns 1 in 24 size 12;", row(0, 9), row(12, 6));
        Rig.fine("both, for hour 0 stays", x, x.slipped(0, 0, 1, 2, 0), 0);
        Rig.fine("by -5", x, x.slip(), -5);
    }

    private static void slippedAboveTheLast() {
        Rig.says("in the HOUR and d (ahead of k: in the HOUR)");
        // HOUR 99,999 has PLACE 15 (COS -8), then -6, -3, 0, 3, 6
        for (int d = 1; d <= 5; d++) {
            TideDiscs x = with("wave a turns 1 in 24 size 12;", row(99999), row(cos(15 + d)));
            Rig.fine("above the last", x, x.slipped(0, 0, 1, 1, 0), 0);
            Rig.fine("by " + d, x, x.slip(), d);
        }
    }

    private static void slippedOfSeveral() {
        Rig.says("of several the least size of d, the lesser d, the lesser k (0 with d 0)");
        // HOUR 12 has COS -12 as 11 and 13 have; 10 and 14 have -10
        TideDiscs x = with("wave a turns 1 in 24 size 12;", row(12), row(-10));
        Rig.fine("by -2 as by 2", x, x.slipped(0, 0, 1, 1, 0), 0);
        Rig.fine("the lesser", x, x.slip(), -2);
        x = with("wave a turns 1 in 24 size 12;", row(12), row(-12));
        Rig.fine("by -1, 0, 1", x, x.slipped(0, 0, 1, 1, 0), 0);
        Rig.fine("the least size", x, x.slip(), 0);
        // -9 is one from -8 (HOURS 9, 15) and one from -10 (HOURS 10, 14)
        x = with("wave a turns 1 in 24 size 12;", row(12), row(-9));
        Rig.fine("by -3, -2, 2, 3", x, x.slipped(0, 0, 1, 1, 0), 0);
        Rig.fine("the least size, then the lesser", x, x.slip(), -2);
        // HOURS 13, 14, 12 by 1: -10, -8, -12; the third is the same, the second is a GAP
        x = with("wave a turns 1 in 24 size 12;", row(2, 12, 13, 14), row(10, -12, -10, -8));
        // by 1 from 2 on or from 1 on (-12 in 12 and 13): the lesser k
        Rig.fine("from 1 on as from 2 on", x, x.slipped(0, 0, 1, 4, 0), 1);
        Rig.fine("by 1", x, x.slip(), 1);
        x = with("wave a turns 1 in 24 size 12;", row(2, 5, 13, 14), row(10, GAP, -10, -8));
        Rig.fine("a gap does as well", x, x.slipped(0, 0, 1, 4, 0), 1);
        Rig.fine("by 1", x, x.slip(), 1);
        // d 0 is told from 0 on, whatever k would do
        x = with("wave a turns 1 in 24 size 12;", row(2, 5, 13, 14), row(10, 3, -12, -10));
        Rig.fine("0 with d 0", x, x.slipped(0, 0, 1, 4, 0), 0);
        Rig.fine("by 0", x, x.slip(), 0);
        // a slip that makes it no better than none
        x = with("wave a turns 1 in 24 size 12;", row(3), row(9));
        // 8 and 10 are one from 9
        Rig.fine("as good as none", x, x.slipped(0, 0, 1, 1, 0), 0);
        Rig.fine("by 0", x, x.slip(), 0);
    }

    private static void zeroMoved() {
        Rig.says("A ZERO MOVED from the k-th reading on by z (-50 to 50): likewise with that HEIGHT and z.");
        int[][] moves = {{-50, -50}, {50, 50}, {-49, -49}, {49, 49}, {1, 1}, {-1, -1}, {0, 0}, {-51, -50}, {51, 50}, {-300, -50}, {300, 50}};
        for (int[] m : moves) {
            TideDiscs x = with(STEEP, row(5, 6, 7), row(steep(5) + m[0], steep(6) + m[0], steep(7) + m[0]));
            Rig.fine("from 0 on", x, x.slipped(0, 0, 1, 3, 1), 0);
            Rig.fine("by " + m[0], x, x.slip(), m[1]);
            x = with(STEEP, row(5, 6, 7), row(steep(5), steep(6), steep(7) + m[0]));
            Rig.fine("from the last on", x, x.slipped(0, 0, 1, 3, 1), m[0] == 0 ? 0 : 2);
            Rig.fine("by " + m[0], x, x.slip(), m[1]);
        }
        // the HEIGHT is rounded first: 5 x -3 by 12 is -1, and 1 is two above it
        TideDiscs x = with("wave a turns 1 in 24 size 5;", row(7, 7), row(1, 1));
        Rig.fine("from 0 on", x, x.slipped(0, 0, 1, 2, 1), 0);
        Rig.fine("by 2", x, x.slip(), 2);
        // one is 3 above, one 5: any from 3 to 5 will do
        x = with("wave a turns 1 in 24 size 12;", row(2, 2), row(13, 15));
        Rig.fine("from 0 on", x, x.slipped(0, 0, 1, 2, 1), 0);
        Rig.fine("the least size", x, x.slip(), 3);
        x = with("wave a turns 1 in 24 size 12;", row(2, 2), row(5, 7));
        Rig.fine("from 0 on", x, x.slipped(0, 0, 1, 2, 1), 0);
        Rig.fine("the least size", x, x.slip(), -3);
        // 4 below and 4 above: none is as good as any
        x = with("wave a turns 1 in 24 size 12;", row(2, 2), row(6, 14));
        Rig.fine("by 4 from 1 on", x, x.slipped(0, 0, 1, 2, 1), 1);
        Rig.fine("by 4", x, x.slip(), 4);
        // HEIGHT TRUE, whatever the TRAIN
        x = with("wave a turns 1 in 24 size 12 train 5 200;", row(2), row(10));
        Rig.fine("true", x, x.slipped(0, 0, 1, 1, 1), 0);
        Rig.fine("by 0", x, x.slip(), 0);
    }

    private static void slippedWhat() {
        Rig.says("A CLOCK SLIPPED (what 0), a ZERO MOVED (1): from which reading on");
        for (int what : new int[] {-1, 2, LEAST, MOST}) {
            Furnished.none(5, "what " + what, x -> x.slipped(0, 0, 1, READINGS, what));
            Furnished.none(5, "what " + what + " ahead of 4", x -> x.slipped(0, 0, 1, READINGS + 1, what));
            Furnished.none(3, "3 ahead of what " + what, x -> x.slipped(0, 0, MISSING, READINGS, what));
            Furnished.none(2, "2 ahead of what " + what, x -> x.slipped(2, 0, 1, READINGS, what));
            Furnished.none(1, "1 ahead of what " + what, x -> x.slipped(0, 0, 5, READINGS, what));
        }
    }

    private static void slipTold() {
        Rig.says("By how much, by slipped() latest with STATUS 0; STATUS tells NONE from -1 (8).");
        TideDiscs x = with("wave a turns 1 in 24 size 12;", row(3), row(10));
        Rig.refused("ahead of any", x, x.slip(), 8);
        x.slipped(0, 0, 1, 2, 0);
        Rig.refused("refused", x, x.slip(), 8);
        x.neighbour(0, 0, 1, 1);
        Rig.refused("another call", x, x.slip(), 8);
        Rig.fine("by one", x, x.slipped(0, 0, 1, 1, 0), 0);
        Rig.fine("-1", x, x.slip(), -1);
        Rig.refused("refused", x, x.slipped(0, 0, 1, 2, 0), 4);
        Rig.fine("-1 still", x, x.slip(), -1);
        Rig.fine("a zero", x, x.slipped(0, 0, 1, 1, 1), 0);
        Rig.fine("of the latest", x, x.slip(), 2);
        x.machine(0, 0);
        Rig.fine("of the latest", x, x.slip(), 2);
    }

    // ---- promise 27

    private static void neighbourRatio() {
        Rig.says("NEIGHBOUR: all WAVES are RATIO (1 to 24) twelfths as high there");
        for (int ratio = 1; ratio <= 24; ratio++) {
            // 36 x 12 x RATIO by 144 is 3 x RATIO
            TideDiscs x = with("wave a turns 1 in 24 size 36;", row(0, 12), row(3 * ratio, -3 * ratio));
            Rig.fine("ratio " + ratio, x, x.neighbour(0, 0, 1, 2), ratio);
            Rig.fine("lag", x, x.lag(), 0);
        }
        TideDiscs x = with("wave a turns 1 in 24 size 36;", row(0, 12), row(75, -75));
        Rig.fine("not 25", x, x.neighbour(0, 0, 1, 2), 24);
        x = with("wave a turns 1 in 24 size 36;", row(0, 12), row(999, -999));
        Rig.fine("not more", x, x.neighbour(0, 0, 1, 2), 24);
        x = with("wave a turns 1 in 24 size 36;", row(0, 12), row(2, -2));
        Rig.fine("not 0", x, x.neighbour(0, 0, 1, 2), 1);
    }

    private static void neighbourLag() {
        Rig.says("their PLACES (TRUE) LAG (0 to 23) less");
        for (int lag = 0; lag < 24; lag++) {
            long[] hours = new long[24];
            long[] read = new long[24];
            for (int h = 0; h < 24; h++) {
                hours[h] = 100 + h;
                read[h] = (96 * cos(100 + h + 7 - lag) + 48 * cos(5 * (100 + h) + 3 - lag)) * 12 / 144;
            }
            TideDiscs x = with("wave a turns 1 in 24 size 96 at 7 train 5 200; wave b turns 5 in 24 size 48 at 3; zero 50;", hours, read);
            Rig.fine("as high", x, x.neighbour(0, 0, 1, 24), 12);
            Rig.fine("lag " + lag, x, x.lag(), lag);
        }
    }

    private static void neighbourRounded() {
        Rig.says("(HEIGHT there times RATIO by 144, rounded towards 0, ZERO left out)");
        // 99 x 12 x 5 by 144 is 41.25; 99 by 12 first would be 8, and 99 x 12 by 144 8
        TideDiscs x = with("wave a turns 1 in 24 size 99; zero 99;", row(0, 12), row(41, -41));
        Rig.fine("ratio 5", x, x.neighbour(0, 0, 1, 2), 5);
        Rig.fine("lag", x, x.lag(), 0);
        x = with("wave a turns 1 in 24 size 99; zero 99;", row(0, 12), row(198, -198));
        Rig.fine("ratio 24", x, x.neighbour(0, 0, 1, 2), 24);
        // 7 x -12 x 1 by 144 is -0.58: towards 0, not down
        x = with("wave a turns 1 in 24 size 7;", row(12), row(0));
        Rig.fine("-0.58 is 0", x, x.neighbour(0, 0, 1, 1), 1);
        Rig.fine("lag", x, x.lag(), 0);
        x = with("wave a turns 1 in 24 size 23;", row(12, 0), row(-1, 1));
        Rig.fine("1.92 is 1", x, x.neighbour(0, 0, 1, 2), 1);
        Rig.fine("lag", x, x.lag(), 0);
        // 11 x 12 x 24 by 144 is 22, 13 x 12 x 11 by 144 is 11.9
        x = with("wave a turns 1 in 24 size 13;", row(0, 12), row(11, -11));
        Rig.fine("11.9 is 11", x, x.neighbour(0, 0, 1, 2), 11);
    }

    private static void neighbourOfSeveral() {
        Rig.says("of several the lesser RATIO, then LAG.");
        // without any WAVE all do as well
        TideDiscs x = with("zero 9;", row(5), row(9));
        Rig.fine("the least ratio", x, x.neighbour(0, 0, 1, 1), 1);
        Rig.fine("the least lag", x, x.lag(), 0);
        // 12 COS by 12 x RATIO by 12: 6 is RATIO 6 with COS 12, 7 with 10 is 5.8 ..: at HOUR 6, LAG 5, 6, 7 have COS 12
        x = with("wave a turns 1 in 24 size 12;", row(6), row(6));
        Rig.fine("the lesser ratio", x, x.neighbour(0, 0, 1, 1), 6);
        Rig.fine("the lesser lag", x, x.lag(), 5);
        // at HOUR 0 LAGS 0, 1, 23 have COS 12
        x = with("wave a turns 1 in 24 size 12;", row(0), row(6));
        Rig.fine("the lesser ratio", x, x.neighbour(0, 0, 1, 1), 6);
        Rig.fine("the lesser lag", x, x.lag(), 0);
        // a lesser RATIO with a greater LAG: -6 at HOUR 4 (COS 6) is RATIO 6 with LAG 15, 16, 17, or RATIO 12 with LAG 12
        x = with("wave a turns 1 in 24 size 12;", row(4), row(-6));
        Rig.fine("the lesser ratio", x, x.neighbour(0, 0, 1, 1), 6);
        Rig.fine("with a greater lag", x, x.lag(), 15);
        // as far off with several: 1 with COS 0 or none
        x = with("wave a turns 1 in 24 size 12;", row(0), row(0));
        Rig.fine("the least ratio", x, x.neighbour(0, 0, 1, 1), 1);
        // RATIO 1 has 12 x 12 by 144 = 1, and 10 x 12 by 144 = 0: LAG 2 is the first
        Rig.fine("the first lag with 0", x, x.lag(), 2);
    }

    private static void lagTold() {
        Rig.says("LAG by neighbour() latest with STATUS 0 (8).");
        TideDiscs x = with("wave a turns 1 in 24 size 36;", row(6, 18), row(36, -36));
        Rig.refused("ahead of any", x, x.lag(), 8);
        x.neighbour(0, 0, 1, 3);
        Rig.refused("refused", x, x.lag(), 8);
        x.slipped(0, 0, 1, 2, 0);
        Rig.refused("another call", x, x.lag(), 8);
        Rig.fine("neighbour", x, x.neighbour(0, 0, 1, 2), 12);
        Rig.fine("lag", x, x.lag(), 5);
        Rig.refused("refused", x, x.neighbour(0, 0, 1, 3), 4);
        Rig.fine("lag still", x, x.lag(), 5);
        x.machine(0, 0);
        Rig.fine("lag still", x, x.lag(), 5);
        Rig.fine("another one", x, x.neighbour(0, 0, 1, 2), 1);
        Rig.fine("its lag", x, x.lag(), 0);
    }

    // ---- promise 29

    private static void ledByATooth() {
        Rig.says("LED: of all wheels of TRAINS one may have a tooth more, or less");
        int[][] wheels = {{40, 57}, {42, 77, 61, 35}, {46, 93, 71, 52}};
        long[] hours = new long[24];
        for (int i = 0; i < 24; i++) {
            hours[i] = 500 + 61 * i;
        }
        for (int w = 0; w < 3; w++) {
            for (int k = 0; k < wheels[w].length; k++) {
                for (int by = -1; by <= 1; by += 2) {
                    TideDiscs x = Rig.with(trains(wheels));
                    wheels[w][k] += by;
                    Rig.machine(x, 1, trains(wheels));
                    wheels[w][k] -= by;
                    Rig.fill(x, 0, hours);
                    x.tray(1, 2, 24);
                    for (int i = 0; i < 24; i++) {
                        x.write(1, i, x.height(1, (int) hours[i], true) / 12);
                    }
                    Rig.fine("the wave", x, x.led(0, 0, 1, 24), w);
                    Rig.fine("the wheel", x, x.wheel(0), k);
                    Rig.fine("more or less", x, x.wheel(1), by > 0 ? 1 : 0);
                    Rig.fine("the machine is as it was", x, x.wave(0, w, 4 + k), wheels[w][k]);
                }
            }
        }
    }

    private static String trains(int[][] wheels) {
        StringBuilder s = new StringBuilder("zero 3;");
        for (int w = 0; w < wheels.length; w++) {
            s.append("wave ").append((char) ('a' + w)).append(" turns 1 in 24 at ").append(5 + w).append(" size ").append(90 - 20 * w).append(" train");
            for (int teeth : wheels[w]) {
                s.append(' ').append(teeth);
            }
            s.append(";");
        }
        return s.toString();
    }

    private static void ledRounded() {
        Rig.says("the sum of sizes of differences between what was read (a GAUGE) and HEIGHT TURNED by 12 (rounded towards 0) is least");
        // HOUR 20: 6 x 12 and 99 x 12 by 12 is 105, with 11 by 10 109
        TideDiscs x = with("wave a turns 1 in 24 size 12 train 10 10; zero 99;", row(20), row(109));
        Rig.fine("109", x, x.led(0, 0, 1, 1), 0);
        Rig.fine("a tooth more", x, x.wheel(1), 1);
        // in HOUR 0 no wheel has turned: none is better than none
        x = with("wave a turns 1 in 24 size 11 train 10 10;", row(0), row(11));
        Rig.fine("132 by 12 is 11", x, x.led(0, 0, 1, 1), NONE);
        x = with("wave a turns 1 in 24 size 11 train 10 10;", row(0), row(999));
        Rig.fine("far off, with any wheel", x, x.led(0, 0, 1, 1), NONE);
        // better by one is better: HOUR 22, PLACE 22, 60 by 12; with 11 by 10 PLACE 0, 72 by 12
        x = with("wave a turns 1 in 24 size 6 train 10 10;", row(22), row(6));
        Rig.fine("by one", x, x.led(0, 0, 1, 1), 0);
        Rig.fine("a tooth more", x, x.wheel(1), 1);
        // what other calls came to is no matter
        x = with("wave a turns 1 in 24 size 12 train 10 10;", row(20, 20), row(999, -999));
        x.neighbour(0, 0, 1, 2);
        x.slipped(0, 0, 1, 2, 1);
        Rig.fill(x, 1, 6, 6);
        Rig.fine("it is right", x, x.led(0, 0, 1, 2), NONE);
    }

    private static void ledOfSeveral() {
        Rig.says("of several none, then the lesser WAVE, the wheel as they stand (0 to 3), more ahead of less.");
        // HOUR 20, PLACE 20, COS 6; 11 by 10 and 10 by 9: PLACE 22, COS 10; 9 by 10 and 10 by 11: PLACE 18, COS 0
        String wave = " turns 1 in 24 size 12 train 10 10;";
        TideDiscs x = with("wave a" + wave + "wave b" + wave, row(20), row(16));
        Rig.fine("the lesser wave", x, x.led(0, 0, 1, 1), 0);
        Rig.fine("the lesser wheel", x, x.wheel(0), 0);
        Rig.fine("more", x, x.wheel(1), 1);
        x = with("wave a" + wave + "wave b" + wave, row(20), row(6));
        Rig.fine("the lesser wave", x, x.led(0, 0, 1, 1), 0);
        Rig.fine("the lesser wheel", x, x.wheel(0), 0);
        Rig.fine("less", x, x.wheel(1), 0);
        x = with("wave a" + wave + "wave b" + wave, row(20), row(12));
        Rig.fine("none", x, x.led(0, 0, 1, 1), NONE);
        Rig.refused("no wheel", x, x.wheel(0), 8);
        x = with("wave a" + wave + "wave b" + wave, row(20), row(14));
        // two from 12 and two from 16
        Rig.fine("none as good as one", x, x.led(0, 0, 1, 1), NONE);
        // a first WAVE without a TRAIN, or without a SIZE, can't be it
        x = with("wave a turns 1 in 24 size 12; wave b" + wave, row(20), row(16));
        Rig.fine("the second one", x, x.led(0, 0, 1, 1), 1);
        x = with("wave a" + wave.replace("12", "0") + "wave b" + wave, row(20), row(10));
        Rig.fine("the second one", x, x.led(0, 0, 1, 1), 1);
        // more and less of one wheel do as well: HOUR 120, PLACE 0, 12; 11 by 10 and 9 by 10: PLACE 12, -12
        x = with("wave a turns 1 in 24 size 12 train 10 10;", row(120), row(-12));
        Rig.fine("the wave", x, x.led(0, 0, 1, 1), 0);
        Rig.fine("the first wheel", x, x.wheel(0), 0);
        Rig.fine("more ahead of less", x, x.wheel(1), 1);
        // the second couple's driver does what the first one's does: HOUR 20, 10 11 by (10 10) and so on
        x = with("wave a turns 1 in 24 size 12 train 10 10 10 10;", row(20), row(10));
        Rig.fine("the wave", x, x.led(0, 0, 1, 1), 0);
        Rig.fine("the first of four", x, x.wheel(0), 0);
    }

    private static void ledByNone() {
        Rig.says("LED: the WAVE; STATUS 0 also with NONE: no wheel");
        TideDiscs x = with("wave a turns 1 in 24 size 12;", row(0, 5), row(-12, 12));
        Rig.fine("no train", x, x.led(0, 0, 1, 2), NONE);
        x = with("", row(0), row(999));
        Rig.fine("no wave", x, x.led(0, 0, 1, 1), NONE);
        Rig.refused("no wheel", x, x.wheel(0), 8);
        Rig.refused("no wheel", x, x.wheel(1), 8);
        // a WAVE of a MACHINE ahead has no wheel in this one: its 11 by 10 would meet the 10 in HOUR 20
        for (int i = 0; i < 3; i++) {
            Rig.machine(x, 0, "wave a turns 1 in 24 size 12; wave b turns 1 in 24 size 12 train 10 10;");
        }
        Rig.machine(x, 0, "wave a turns 1 in 24 size 12;");
        Rig.fill(x, 0, 20);
        Rig.fill(x, 1, 10);
        Rig.fine("no train", x, x.led(0, 0, 1, 1), NONE);
        Rig.machine(x, 0, "wave a turns 1 in 24 size 12;");
        Rig.fine("no train", x, x.led(0, 0, 1, 1), NONE);
        // HEIGHT TURNED by 12 is rounded towards 0: 5 x -3 by 12 is -1
        x = with("wave a turns 1 in 12 size 5 train 10 10;", row(7), row(-1));
        Rig.fine("-1.25 is -1", x, x.led(0, 0, 1, 1), NONE);
        // the least wheel may have 4 teeth, the greatest 201: HOUR 20, 6 by 5 PLACE 24, 5 by 4 25, 5 by 5 20, 5 by 6 16, 4 by 5 16
        x = with("wave a turns 1 in 24 size 12 train 5 5;", row(20), row(12));
        Rig.fine("6 by 5", x, x.led(0, 0, 1, 1), 0);
        Rig.fine("the driver", x, x.wheel(0), 0);
        x = with("wave a turns 1 in 24 size 12 train 200 200;", row(10050), row(cos(10100)));
        // 201 by 200: 10,100.25; 200 by 199: 10,100.5
        Rig.fine("201 by 200", x, x.led(0, 0, 1, 1), 0);
        Rig.fine("the driver", x, x.wheel(0), 0);
        Rig.fine("more", x, x.wheel(1), 1);
        x = with("wave a turns 1 in 24 size 12 train 6 5;", row(5), row(cos(7)));
        // 6 by 5: 6; 7 by 5: 7; 6 by 4: 7.5
        Rig.fine("7 by 5", x, x.led(0, 0, 1, 1), 0);
        Rig.fine("the driver", x, x.wheel(0), 0);
        Rig.fine("more", x, x.wheel(1), 1);
    }

    private static void wheelTold() {
        Rig.says("Of led() latest with STATUS 0, what 0: the wheel, 1: 1 for a tooth more, else 0 (5; 8: no wheel).");
        for (int what : new int[] {-1, 2, LEAST, MOST}) {
            Furnished.none(5, "what " + what, x -> x.wheel(what));
            TideDiscs x = new TideDiscs();
            Rig.refused("what " + what + " ahead of 8", x, x.wheel(what), 5);
        }
        TideDiscs x = with("wave a turns 1 in 24 size 12 train 10 10;", row(20), row(0));
        Rig.refused("ahead of any", x, x.wheel(0), 8);
        x.led(0, 0, 1, 2);
        Rig.refused("refused", x, x.wheel(0), 8);
        Rig.fine("led", x, x.led(0, 0, 1, 1), 0);
        Rig.fine("less", x, x.wheel(1), 0);
        Rig.refused("refused", x, x.led(0, 0, 1, 2), 4);
        Rig.fine("less still", x, x.wheel(1), 0);
        Rig.fine("the wheel still", x, x.wheel(0), 0);
        x.write(1, 0, 6);
        Rig.fine("none this time", x, x.led(0, 0, 1, 1), NONE);
        Rig.refused("no wheel", x, x.wheel(0), 8);
        Rig.refused("no wheel", x, x.wheel(1), 8);
    }
}
