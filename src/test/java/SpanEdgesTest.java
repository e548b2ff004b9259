/** The edges of promises 31 to 37: spans, BOUNDS, LANDING, SPREAD, both MACHINES COMPARED. */
public final class SpanEdgesTest {
    private static final int NONE = TideDiscs.NONE;
    private static final int LEAST = Integer.MIN_VALUE;
    private static final int MOST = Integer.MAX_VALUE;
    private static final int[] COS = {
        12, 12, 10, 8, 6, 3, 0, -3, -6, -8, -10, -12, -12, -12, -10, -8, -6, -3, 0, 3, 6, 8, 10, 12
    };
    /** HEIGHT TRUE is COS of the HOUR, HEIGHT TURNED stands still for 40 HOURS. */
    private static final String TRUE_WAVE = "wave a turns 1 in 24 size 1 train 5 200;";
    private static final int[][] NO_SPANS = {
        {-1, 0}, {-1, -1}, {0, -1}, {1, 0}, {99999, 99998}, {99999, 100000}, {100000, 100000}, {100000, 0},
        {LEAST, 0}, {0, MOST}, {LEAST, MOST}, {MOST, LEAST}, {LEAST, LEAST}, {MOST, MOST}
    };
    private static final int[][] TOO_LONG = {{0, 2000}, {5, 2005}, {97999, 99999}, {0, 99999}};
    private static final int[][] LONGEST = {{0, 1999}, {5, 2004}, {98000, 99999}};

    public static void main(String[] args) {
        extremeOfASpan();
        extremeSpans();
        boundsOfEachPlace();
        boundsSummed();
        boundsRefused();
        askedAtFirst();
        askHeights();
        askPlacesAndHours();
        askMoon();
        askOrder();
        landingHeights();
        landingBounds();
        landingRising();
        landingMoon();
        landingTime();
        landingSpans();
        landingRefused();
        spreadSizes();
        spreadPlaces();
        spreadOfSeveral();
        spreadOthers();
        spreadSpans();
        spreadTold();
        comparedByMore();
        comparedSpans();
        compareRefused();
        Rig.end();
    }

    // ---- promise 31

    private static void extremeOfASpan() {
        Rig.says("HIGHEST, LEAST of a span (from an HOUR to one not ahead, at most 2,000 of them, both counted) by HEIGHT (TRUE or TURNED): of several the first.");
        TideDiscs x = Rig.with(TRUE_WAVE);
        // COS is 12 at 23, 24, 25 and -12 at 11, 12, 13
        Rig.fine("the first of several", x, x.extreme(0, 3, 40, false, true), 23);
        Rig.fine("the first of several", x, x.extreme(0, 24, 47, false, true), 24);
        Rig.fine("the last counts: 23", x, x.extreme(0, 3, 23, false, true), 23);
        Rig.fine("not yet: 22", x, x.extreme(0, 3, 22, false, true), 22);
        Rig.fine("the first counts: 25", x, x.extreme(0, 25, 46, false, true), 25);
        Rig.fine("the least, the first of several", x, x.extreme(0, 0, 40, false, false), 11);
        Rig.fine("the least, the last counts", x, x.extreme(0, 0, 11, false, false), 11);
        Rig.fine("the least, the first counts", x, x.extreme(0, 13, 34, false, false), 13);
        Rig.fine("all alike, turned", x, x.extreme(0, 0, 39, true, true), 0);
        Rig.fine("all alike, turned", x, x.extreme(0, 0, 39, true, false), 0);
        // TURNED it is 12 to HOUR 79, then 10
        Rig.fine("turned, the least", x, x.extreme(0, 0, 80, true, false), 80);
        Rig.fine("turned, the highest", x, x.extreme(0, 0, 80, true, true), 0);
        for (int h : new int[] {0, 17, 99999}) {
            Rig.fine("one hour", x, x.extreme(0, h, h, false, true), h);
            Rig.fine("one hour", x, x.extreme(0, h, h, true, false), h);
        }
        // two HOURS: either one
        Rig.fine("the second", x, x.extreme(0, 17, 18, false, true), 18);
        Rig.fine("the first", x, x.extreme(0, 17, 18, false, false), 17);
        Rig.fine("without waves the first", x, x.extreme(1, 9, 99, false, true), 9);
    }

    private static void extremeSpans() {
        Rig.says("HIGHEST (high), or LEAST: the HOUR (2; 5: also from behind to, a span too long).");
        // a WAVE so slow that the last HOUR alone is least: PLACES 4 and 5 begin at HOURS 1,667 and 2,084
        TideDiscs y = Rig.with("wave a turns 1 in 9999 size 1;");
        Rig.fine("the last of 2000 counts", y, y.extreme(0, 85, 2084, false, false), 2084);
        Rig.fine("the one behind them does not", y, y.extreme(0, 84, 2083, false, false), 1667);
        for (int[] s : LONGEST) {
            TideDiscs x = Furnished.make();
            Rig.due("from " + s[0] + " to " + s[1], x.extreme(0, s[0], s[1], true, true) >= s[0], true);
            Rig.due("its status", x.status(), 0);
        }
        for (int[] s : TOO_LONG) {
            Furnished.none(5, "from " + s[0] + " to " + s[1], x -> x.extreme(0, s[0], s[1], false, true));
        }
        for (int[] s : NO_SPANS) {
            Furnished.none(5, "from " + s[0] + " to " + s[1], x -> x.extreme(0, s[0], s[1], false, true));
            Furnished.none(5, "from " + s[0] + " to " + s[1], x -> x.extreme(1, s[0], s[1], true, false));
            Furnished.none(2, "2 ahead of 5", x -> x.extreme(2, s[0], s[1], false, true));
        }
        for (int m : new int[] {-1, 2, LEAST, MOST}) {
            Furnished.none(2, "machine " + m, x -> x.extreme(m, 0, 0, false, true));
        }
    }

    // ---- promise 32

    private static void boundsOfEachPlace() {
        Rig.says("BOUNDS of HEIGHT TRUE, if each PLACE may be off by up to e (0 to 5) either way");
        for (int e = 0; e <= 5; e++) {
            TideDiscs x = Rig.with("wave a turns 1 in 24 size 1;");
            for (int p = 0; p < 24; p++) {
                int least = 12;
                int greatest = -12;
                for (int d = -e; d <= e; d++) {
                    least = Math.min(least, COS[(p + d + 24) % 24]);
                    greatest = Math.max(greatest, COS[(p + d + 24) % 24]);
                }
                Rig.fine("least of place " + p + " by " + e, x, x.bounds(0, p, e, 0), least);
                Rig.fine("greatest of place " + p + " by " + e, x, x.bounds(0, p, e, 1), greatest);
            }
        }
    }

    private static void boundsSummed() {
        Rig.says("the sum of the least, the greatest COS that each may have then times SIZE, and 12 times ZERO.");
        TideDiscs x = Rig.with("wave a turns 1 in 24 size 99 train 5 200; wave b turns 1 in 12 size 99 at 6; zero 99;");
        // HOUR 0: PLACES 0 and 6; by 5: COS 3 to 12, and -12 to 12 (PLACES 1 to 11)
        Rig.fine("least by 5", x, x.bounds(0, 0, 5, 0), 99 * 3 - 99 * 12 + 12 * 99);
        Rig.fine("greatest by 5", x, x.bounds(0, 0, 5, 1), 99 * 12 + 99 * 12 + 12 * 99);
        Rig.fine("least by 0", x, x.bounds(0, 0, 0, 0), 99 * 12 + 12 * 99);
        Rig.fine("greatest by 0", x, x.bounds(0, 0, 0, 1), 99 * 12 + 12 * 99);
        // TRUE, whatever the TRAIN
        Rig.fine("true", x, x.bounds(0, 6, 0, 1), x.height(0, 6, false));
        Rig.fine("true in the last hour", x, x.bounds(0, 99999, 0, 0), x.height(0, 99999, false));
        Rig.fine("without waves", x, x.bounds(1, 0, 5, 0), 0);
        Rig.says("BOUNDS, what 0: the least, 1: the greatest; STATUS tells NONE from -1 (2; 5).");
        // PLACE 7 of size 3 and PLACE 3 of size 1: -9 + 8
        x = Rig.with("wave a turns 1 in 24 size 3 at 7; wave b turns 1 in 24 size 1 at 3;");
        Rig.fine("-1", x, x.bounds(0, 0, 0, 0), -1);
        Rig.fine("-1", x, x.bounds(0, 0, 0, 1), -1);
    }

    private static void boundsRefused() {
        for (int e : new int[] {-1, 6, LEAST, MOST}) {
            Furnished.none(5, "e " + e, x -> x.bounds(0, 0, e, 0));
            Furnished.none(2, "2 ahead of e " + e, x -> x.bounds(2, 0, e, 0));
        }
        for (int what : new int[] {-1, 2, LEAST, MOST}) {
            Furnished.none(5, "what " + what, x -> x.bounds(0, 0, 0, what));
            Furnished.none(2, "2 ahead of what " + what, x -> x.bounds(2, 0, 0, what));
        }
        for (int h : new int[] {-1, 100000, LEAST, MOST}) {
            Furnished.none(5, "hour " + h, x -> x.bounds(1, h, 0, 1));
            Furnished.none(2, "2 ahead of hour " + h, x -> x.bounds(-1, h, 0, 1));
        }
        for (int m : new int[] {-1, 2, LEAST, MOST}) {
            Furnished.none(2, "machine " + m, x -> x.bounds(m, 0, 0, 0));
        }
    }

    // ---- promise 33

    private static void askedAtFirst() {
        Rig.says("at first 0 and 0, 0, not, NONE and 0, 0 to 23");
        // HEIGHT 0 alone: COS is 0 at PLACES 6 and 18
        TideDiscs x = Rig.with(TRUE_WAVE);
        Rig.fine("falling", x, x.landing(0, 0, 99), 6);
        Rig.fine("rising", x, x.landing(0, 7, 99), 18);
        Rig.refused("none between", x, x.landing(0, 7, 17), 8);
        // in any hour of the day, the first and the last one, too
        x = Rig.with("wave a turns 1 in 24 size 1 at 6;");
        Rig.fine("hour 0", x, x.landing(0, 0, 23), 0);
        Rig.fine("hour 24", x, x.landing(0, 13, 36), 24);
        x = Rig.with("wave a turns 1 in 24 size 1 at 7;");
        Rig.fine("hour 23", x, x.landing(0, 12, 23), 23);
        x = new TideDiscs();
        Rig.fine("no moon, no waves", x, x.landing(0, 0, 0), 0);
        Rig.fine("no moon, no waves", x, x.landing(1, 99999, 99999), 99999);
    }

    private static void asked(String what, int least, int most, int e, int moon, int places, int from, int to) {
        TideDiscs x = Furnished.make();
        Rig.fine(what, x, x.ask(least, most, e, false, moon, places, from, to));
        Rig.fine(what + ", rising", x, x.ask(least, most, e, true, moon, places, from, to));
    }

    private static void askHeights() {
        Rig.says("What LANDING asks: a least and a most HEIGHT (-99,999 to 99,999, the most not below)");
        asked("from the least to the most", -99999, 99999, 0, NONE, 0, 0, 23);
        asked("the least alone", -99999, -99999, 0, NONE, 0, 0, 23);
        asked("the most alone", 99999, 99999, 0, NONE, 0, 0, 23);
        asked("0 alone", 0, 0, 0, NONE, 0, 0, 23);
        int[][] bad = {{-100000, 0}, {0, 100000}, {1, 0}, {99999, 99998}, {-99998, -99999}, {100000, 100000}, {-100000, -100000},
            {-100000, 100000}, {LEAST, 0}, {0, MOST}, {LEAST, MOST}, {MOST, LEAST}, {MOST, MOST}, {LEAST, LEAST}};
        for (int[] b : bad) {
            Furnished.no(5, "from " + b[0] + " to " + b[1], x -> x.ask(b[0], b[1], 0, false, NONE, 0, 0, 23));
        }
    }

    private static void askPlacesAndHours() {
        Rig.says("e, rising or not, the moon and so many PLACES, hours of the day from and to");
        asked("e 5", 0, 0, 5, NONE, 0, 0, 23);
        asked("12 places", 0, 0, 0, NONE, 12, 0, 23);
        asked("0 to 0", 0, 0, 0, NONE, 0, 0, 0);
        asked("23 to 23", 0, 0, 0, NONE, 0, 23, 23);
        asked("23 to 0", 0, 0, 0, NONE, 0, 23, 0);
        for (int e : new int[] {-1, 6, LEAST, MOST}) {
            Furnished.no(5, "e " + e, x -> x.ask(0, 0, e, false, NONE, 0, 0, 23));
        }
        for (int places : new int[] {-1, 13, LEAST, MOST}) {
            Furnished.no(5, places + " places of a moon", x -> x.ask(0, 0, 0, false, 0, places, 0, 23));
            Furnished.no(5, places + " places of none", x -> x.ask(0, 0, 0, false, NONE, places, 0, 23));
        }
        for (int hour : new int[] {-1, 24, LEAST, MOST}) {
            Furnished.no(5, "from " + hour, x -> x.ask(0, 0, 0, false, NONE, 0, hour, 23));
            Furnished.no(5, "to " + hour, x -> x.ask(0, 0, 0, true, NONE, 0, 0, hour));
            Furnished.no(5, "from and to " + hour, x -> x.ask(0, 0, 0, true, NONE, 0, hour, hour));
        }
    }

    private static void askMoon() {
        Rig.says("(2: a moon below NONE; 5)");
        for (int moon : new int[] {NONE, 0, 1, 5, 6, 1000, MOST}) {
            asked("moon " + moon, 0, 0, 0, moon, 0, 0, 23);
        }
        for (int moon : new int[] {-2, -3, LEAST}) {
            Furnished.no(2, "moon " + moon, x -> x.ask(0, 0, 0, false, moon, 0, 0, 23));
        }
    }

    private static void askOrder() {
        Furnished.no(2, "2 ahead of heights", x -> x.ask(1, 0, 0, false, -2, 0, 0, 23));
        Furnished.no(2, "2 ahead of e", x -> x.ask(0, 0, 6, false, -2, 0, 0, 23));
        Furnished.no(2, "2 ahead of places", x -> x.ask(0, 0, 0, false, -2, 13, 0, 23));
        Furnished.no(2, "2 ahead of from", x -> x.ask(0, 0, 0, false, -2, 0, 24, 23));
        Furnished.no(2, "2 ahead of to", x -> x.ask(0, 0, 0, false, -2, 0, 0, 24));
        Furnished.no(2, "2 ahead of all", x -> x.ask(9, 0, 9, false, -2, 99, -1, -1));
    }

    // ---- promise 34

    private static TideDiscs asking(String text, int least, int most, int e, boolean rising) {
        TideDiscs x = Rig.with(text);
        Rig.fine("ask", x, x.ask(least, most, e, rising, NONE, 0, 0, 23));
        return x;
    }

    private static void landingHeights() {
        Rig.says("LANDING: the first HOUR of such a span in which BOUNDS (by e) lie from a least to a most");
        // HEIGHTS by the HOUR: 12 12 10 8 6 3 0
        TideDiscs x = asking(TRUE_WAVE, 8, 10, 0, false);
        Rig.fine("just the most", x, x.landing(0, 0, 23), 2);
        Rig.fine("just the least", x, x.landing(0, 3, 23), 3);
        Rig.fine("below the least no more", x, x.landing(0, 4, 23), 21);
        x = asking(TRUE_WAVE, 8, 9, 0, false);
        Rig.fine("above the most", x, x.landing(0, 0, 23), 3);
        x = asking(TRUE_WAVE, 9, 10, 0, false);
        Rig.fine("below the least", x, x.landing(0, 3, 23), 22);
        x = asking(TRUE_WAVE, 9, 9, 0, false);
        Rig.refused("never just 9", x, x.landing(0, 0, 1999), 8);
        x = asking(TRUE_WAVE, -12, -12, 0, false);
        Rig.fine("the first of several", x, x.landing(0, 0, 23), 11);
        x = asking(TRUE_WAVE, -99999, 99999, 5, false);
        Rig.fine("any height", x, x.landing(0, 7, 2006), 7);
        x = asking(TRUE_WAVE, -99999, -13, 0, false);
        Rig.refused("too low", x, x.landing(0, 0, 1999), 8);
        x = asking(TRUE_WAVE, 13, 99999, 0, false);
        Rig.refused("too high", x, x.landing(0, 0, 1999), 8);
    }

    private static void landingBounds() {
        // HOUR 4, PLACES 3 to 5: COS 8, 6, 3
        TideDiscs x = asking(TRUE_WAVE, 3, 8, 1, false);
        Rig.fine("both bounds just so", x, x.landing(0, 0, 23), 4);
        Rig.fine("on the other side, too", x, x.landing(0, 5, 23), 20);
        x = asking(TRUE_WAVE, 4, 8, 1, false);
        Rig.refused("one too low", x, x.landing(0, 0, 1999), 8);
        x = asking(TRUE_WAVE, 3, 7, 1, false);
        Rig.refused("one too high", x, x.landing(0, 0, 1999), 8);
        // by 5, PLACES 19 to 5 around 0: COS 3 to 12
        x = asking(TRUE_WAVE, 3, 12, 5, false);
        Rig.fine("around the turn", x, x.landing(0, 1, 99), 24);
        Rig.fine("at its start", x, x.landing(0, 0, 99), 0);
    }

    private static void landingRising() {
        Rig.says("HEIGHT TRUE is greater in the next HOUR (if rising is asked)");
        TideDiscs x = asking(TRUE_WAVE, -12, -12, 0, true);
        // -12 at 11, 12, 13; the next is greater behind 13 alone
        Rig.fine("no longer alike", x, x.landing(0, 0, 23), 13);
        x = asking(TRUE_WAVE, 12, 12, 0, true);
        Rig.refused("the highest never rises", x, x.landing(0, 0, 1999), 8);
        x = asking(TRUE_WAVE, -12, 12, 0, true);
        Rig.fine("rising at last", x, x.landing(0, 0, 23), 13);
        Rig.fine("rising to 22", x, x.landing(0, 22, 23), 22);
        Rig.refused("23 does not rise", x, x.landing(0, 23, 36), 8);
        // TURNED nothing rises here; the next HOUR of the last one is reckoned on: 15, 16
        Rig.fine("the last hour", x, x.landing(0, 99999, 99999), 99999);
        x = asking("wave a turns 1 in 24 size 1 at 12;", -12, 12, 0, true);
        // PLACE 3 falls
        Rig.refused("the last hour does not", x, x.landing(0, 99999, 99999), 8);
        x = asking(TRUE_WAVE, 0, 0, 0, false);
        Rig.fine("not asked: falling, too", x, x.landing(0, 0, 23), 6);
        x = asking(TRUE_WAVE, 0, 0, 0, true);
        Rig.fine("asked: rising alone", x, x.landing(0, 0, 23), 18);
    }

    private static void landingMoon() {
        Rig.says("the PLACE (TRUE) of a told WAVE (the moon; NONE: not asked) is at most so many PLACES (0 to 12) from 12 either way");
        for (int places = 0; places <= 12; places++) {
            TideDiscs x = Rig.with("wave m turns 1 in 24 train 5 200;");
            x.ask(0, 0, 0, false, 0, places, 0, 23);
            Rig.fine("ahead of it", x, x.landing(0, 0, 99), 12 - places);
            if (places < 12) {
                Rig.fine("the last behind it", x, x.landing(0, 12 + places, 99), 12 + places);
                Rig.fine("one further", x, x.landing(0, 13 + places, 99), 36 - places);
            } else {
                Rig.fine("any", x, x.landing(0, 24, 99), 24);
            }
        }
        // of several WAVES the told one
        for (int moon = 0; moon < 3; moon++) {
            TideDiscs x = Rig.with("wave a turns 1 in 24 at 11; wave b turns 1 in 24 at 9; wave c turns 1 in 24 at 5;");
            x.ask(0, 0, 0, false, moon, 0, 0, 23);
            Rig.fine("moon " + moon, x, x.landing(0, 0, 99), new int[] {1, 3, 7}[moon]);
        }
    }

    private static void landingTime() {
        Rig.says("and the hour of the day (the rest by 24) lies from one to another (0 to 23; from above to: over midnight)");
        for (int from = 0; from < 24; from++) {
            for (int to = 0; to < 24; to += from % 5 + 1) {
                TideDiscs x = new TideDiscs();
                x.ask(0, 0, 0, false, NONE, 0, from, to);
                Rig.fine("from its hour", x, x.landing(0, 48 + from, 99), 48 + from);
                Rig.fine("to its hour", x, x.landing(0, 48 + to, 99), 48 + to);
                // the HOUR behind to is in time again at from of that day or the next, if not at once
                int behind = 48 + to + 1;
                int want = behind + Math.floorMod(from - behind, 24);
                Rig.fine("behind its hour", x, x.landing(0, behind, 199), want);
            }
        }
        // not at 22, but from 23 over midnight to 0
        TideDiscs x = new TideDiscs();
        x.ask(0, 0, 0, false, NONE, 0, 23, 0);
        Rig.fine("over midnight", x, x.landing(0, 1, 99), 23);
        Rig.fine("behind midnight", x, x.landing(0, 24, 99), 24);
        Rig.refused("not between", x, x.landing(0, 25, 46), 8);
        x.ask(0, 0, 0, false, NONE, 0, 15, 15);
        Rig.fine("the last hour is 15 o'clock", x, x.landing(0, 99984, 99999), 99999);
    }

    private static void landingSpans() {
        Rig.says("of such a span");
        for (int[] s : LONGEST) {
            TideDiscs x = new TideDiscs();
            Rig.fine("from " + s[0] + " to " + s[1], x, x.landing(0, s[0], s[1]), s[0]);
        }
        TideDiscs x = asking("wave a turns 1 in 9999 size 1;", 6, 6, 0, false);
        // PLACE 4 begins at 1,667, PLACE 5 at 2,084
        Rig.fine("the last of the span", x, x.landing(0, 0, 1667), 1667);
        Rig.refused("not to it", x, x.landing(0, 0, 1666), 8);
        Rig.fine("the first of the span", x, x.landing(0, 2083, 4082), 2083);
        Rig.refused("behind it", x, x.landing(0, 2084, 4083), 8);
        for (int[] s : TOO_LONG) {
            Furnished.none(5, "from " + s[0] + " to " + s[1], y -> y.landing(0, s[0], s[1]));
        }
        for (int[] s : NO_SPANS) {
            Furnished.none(5, "from " + s[0] + " to " + s[1], y -> y.landing(0, s[0], s[1]));
        }
    }

    private static void landingRefused() {
        Rig.says("LANDING, as asked (2: a moon that there is not, too; 5; 8).");
        for (int m : new int[] {-1, 2, LEAST, MOST}) {
            Furnished.none(2, "machine " + m, x -> x.landing(m, 0, 0));
            Furnished.none(2, "machine " + m + " ahead of 5", x -> x.landing(m, 1, 0));
        }
        // the moon of a furnished object is WAVE 2, and MACHINE 1 has two WAVES
        Furnished.none(2, "no such moon", x -> x.landing(1, 0, 0));
        Furnished.none(2, "no such moon ahead of 5", x -> x.landing(1, 1, 0));
        for (int moon : new int[] {3, 6, MOST}) {
            Furnished.none(2, "moon " + moon, x -> x.ask(0, 0, 0, false, moon, 0, 0, 23), x -> x.landing(0, 0, 0));
        }
        TideDiscs y = Furnished.make();
        y.ask(-99999, 99999, 0, false, 2, 12, 0, 23);
        Rig.fine("the last wave", y, y.landing(0, 0, 0), 0);
        y.ask(-99999, 99999, 0, false, 1, 12, 0, 23);
        Rig.fine("the last wave of the other", y, y.landing(1, 0, 0), 0);
        Furnished.none(8, "in no hour", x -> x.ask(99999, 99999, 0, false, NONE, 0, 0, 23), x -> x.landing(0, 0, 1999));
        Furnished.none(8, "not at this hour", x -> x.ask(-99999, 99999, 0, false, NONE, 0, 5, 5), x -> x.landing(0, 4, 4));
    }

    // ---- promise 35

    private static void spreadBy(TideDiscs x, int wave, int size, int at, int sum) {
        if (wave == NONE) {
            Rig.refused("no size", x, x.spreadTold(0), 8);
            Rig.refused("no at", x, x.spreadTold(1), 8);
        } else {
            Rig.fine("size", x, x.spreadTold(0), size);
            Rig.fine("at", x, x.spreadTold(1), at);
        }
        Rig.fine("sum", x, x.spreadTold(2), sum);
    }

    private static void spreadSizes() {
        Rig.says("of all others one (or none) may be set anew (SIZE 0 to 99, AT 0 to 23)");
        // both go alike: their SIZES come together; all COS of a DAY come to 180
        int[][] sizes = {{10, 5, 15, 0}, {1, 0, 1, 0}, {50, 49, 99, 0}, {50, 50, 99, 180}, {99, 99, 99, 99 * 180}, {99, 0, 99, 0}};
        for (int[] s : sizes) {
            TideDiscs x = Rig.with("wave a turns 1 in 24 size " + s[0] + "; wave b turns 1 in 24 size " + s[1] + ";");
            boolean none = s[1] == s[2];
            Rig.fine("sizes " + s[0] + " and " + s[1], x, x.spread(0, 0, 0, 23), none ? NONE : 1);
            spreadBy(x, none ? NONE : 1, s[2], 0, s[3]);
            Rig.fine("the broken one is as it was", x, x.wave(0, 0, 2), s[0]);
            Rig.fine("the other one is as it was", x, x.wave(0, 1, 2), s[1]);
        }
        // they undo each other in every HOUR, so the other one has to go
        TideDiscs x = Rig.with("wave a turns 1 in 24 size 7; wave b turns 1 in 24 size 7 at 12;");
        Rig.fine("size 0", x, x.spread(0, 0, 0, 23), 1);
        spreadBy(x, 1, 0, 0, 0);
    }

    private static void spreadPlaces() {
        for (int at = 0; at < 24; at++) {
            TideDiscs x = Rig.with("wave a turns 1 in 24 size 20 at " + at + "; wave b turns 1 in 24;");
            Rig.fine("at " + at, x, x.spread(0, 0, 24, 71), 1);
            spreadBy(x, 1, 20, at, 0);
        }
        // in the last HOURS as well, and TRUE, whatever the TRAINS
        TideDiscs x = Rig.with("wave a turns 5 in 24 size 20 at 7 train 5 200; wave b turns 5 in 24 train 200 5;");
        Rig.fine("the last hours", x, x.spread(0, 0, 99952, 99999), 1);
        spreadBy(x, 1, 20, 7, 0);
        x = Rig.with("wave a turns 1 in 11 size 20 at 7 train 5 200; wave b turns 1 in 11;");
        Rig.fine("from hour 30 on", x, x.spread(0, 0, 30, 60), 1);
        spreadBy(x, 1, 20, 7, 0);
    }

    private static void spreadOfSeveral() {
        Rig.says("the sum of sizes of differences to what HEIGHT TRUE was is least; of several none, then the lesser WAVE, SIZE, AT.");
        // HOUR 6: the broken one has 0, so none is set anew
        TideDiscs x = Rig.with("wave a turns 1 in 24 size 4; wave b turns 1 in 24 size 3; wave c turns 1 in 24;");
        Rig.fine("none", x, x.spread(0, 0, 6, 6), NONE);
        spreadBy(x, NONE, 0, 0, 0);
        x = Rig.with("wave a turns 1 in 24 size 4; wave b turns 1 in 24; wave c turns 1 in 24;");
        Rig.fine("the lesser wave", x, x.spread(0, 0, 0, 23), 1);
        Rig.fine("the lesser wave", x, x.spread(0, 0, 0, 0), 1);
        // broken WAVE 1: WAVE 0 is the lesser one
        x = Rig.with("wave a turns 1 in 24; wave b turns 1 in 24 size 4; wave c turns 1 in 24;");
        Rig.fine("the lesser wave", x, x.spread(0, 1, 0, 23), 0);
        spreadBy(x, 0, 4, 0, 0);
        // HOUR 4: 24 is wanted: SIZE 2 with COS 12 (PLACES 23, 0, 1), SIZE 3 with 8, SIZE 4 with 6
        x = Rig.with("wave a turns 1 in 24 size 4; wave b turns 1 in 24;");
        Rig.fine("the lesser size", x, x.spread(0, 0, 4, 4), 1);
        spreadBy(x, 1, 2, 19, 0);
        // HOUR 2: 40 is wanted: SIZE 4 with COS 10 (PLACES 2, 22), AT 0 or 20; SIZE 5 with 8
        Rig.fine("the lesser at", x, x.spread(0, 0, 2, 2), 1);
        spreadBy(x, 1, 4, 0, 0);
        // HOUR 12: -48 is wanted: PLACES 11, 12, 13 have -12: AT 23, 0, 1
        Rig.fine("the lesser at", x, x.spread(0, 0, 12, 12), 1);
        spreadBy(x, 1, 4, 0, 0);
        // a WAVE that stands still at COS 0 may have any SIZE, but AT others it helps: 36 is met by 3 x 12 or 6 x 6
        x = Rig.with("wave a turns 1 in 24 size 3; wave b turns 1 in 1 at 6;");
        Rig.fine("standing still", x, x.spread(0, 0, 0, 0), 1);
        spreadBy(x, 1, 3, 0, 0);
        // HOURS 4 and 5: 72 and 36 are wanted, and all from 36 to 72 do as well: 3 x 12 is the least SIZE
        x = Rig.with("wave a turns 1 in 24 size 12; wave b turns 1 in 1 at 6;");
        Rig.fine("any of several sizes", x, x.spread(0, 0, 4, 5), 1);
        spreadBy(x, 1, 3, 0, 36);
        // HOUR 6: 0 is wanted, and there
        Rig.fine("none is as good as size 0", x, x.spread(0, 0, 6, 6), NONE);
    }

    private static void spreadOthers() {
        Rig.says("SPREAD: the WAVE set anew; STATUS 0 also with NONE: none (2; 5).");
        TideDiscs x = Rig.with("wave a turns 1 in 24 size 5;");
        Rig.fine("no other", x, x.spread(0, 0, 0, 23), NONE);
        spreadBy(x, NONE, 0, 0, 5 * 180);
        x = Rig.with("wave a turns 1 in 24 size 5 train 5 200;");
        Rig.fine("no other, true", x, x.spread(0, 0, 0, 23), NONE);
        spreadBy(x, NONE, 0, 0, 5 * 180);
        x = Rig.with("wave a turns 1 in 24; wave b turns 1 in 24 size 5;");
        Rig.fine("broken without a size", x, x.spread(0, 0, 0, 23), NONE);
        spreadBy(x, NONE, 0, 0, 0);
        StringBuilder six = new StringBuilder();
        for (int i = 0; i < 6; i++) {
            six.append("wave ").append((char) ('a' + i)).append(" turns ").append(i < 4 ? i + 2 : 1).append(" in 24 size 9;");
        }
        // WAVES 4 and 5 go alike
        x = Rig.with(six.toString());
        Rig.fine("the last for the last but one", x, x.spread(0, 4, 0, 23), 5);
        spreadBy(x, 5, 18, 0, 0);
        Rig.fine("and the other way", x, x.spread(0, 5, 0, 23), 4);
        spreadBy(x, 4, 18, 0, 0);
        for (int w : new int[] {-1, 3, 6, LEAST, MOST}) {
            Furnished.none(2, "wave " + w, y -> y.spread(0, w, 0, 9));
            Furnished.none(2, "wave " + w + " ahead of 5", y -> y.spread(0, w, 1, 0));
        }
        Furnished.none(2, "wave 2 of machine 1", y -> y.spread(1, 2, 0, 9));
        for (int m : new int[] {-1, 2, LEAST, MOST}) {
            Furnished.none(2, "machine " + m, y -> y.spread(m, 0, 0, 9));
            Furnished.none(2, "machine " + m + " ahead of 5", y -> y.spread(m, 0, 1, 0));
        }
    }

    private static void spreadSpans() {
        Rig.says("so that over a span (at most 48 HOURS)");
        TideDiscs x = Rig.with("wave a turns 1 in 24 size 5;");
        for (int[] s : new int[][] {{0, 47}, {7, 54}, {99952, 99999}}) {
            Rig.fine("48 hours", x, x.spread(0, 0, s[0], s[1]), NONE);
            spreadBy(x, NONE, 0, 0, 2 * 5 * 180);
        }
        Rig.fine("one hour", x, x.spread(0, 0, 99999, 99999), NONE);
        spreadBy(x, NONE, 0, 0, 5 * 8);
        Rig.fine("47 hours", x, x.spread(0, 0, 0, 46), NONE);
        spreadBy(x, NONE, 0, 0, 2 * 5 * 180 - 5 * 12);
        for (int[] s : new int[][] {{0, 48}, {7, 55}, {99951, 99999}, {0, 1999}}) {
            Furnished.none(5, "from " + s[0] + " to " + s[1], y -> y.spread(0, 0, s[0], s[1]));
        }
        for (int[] s : NO_SPANS) {
            Furnished.none(5, "from " + s[0] + " to " + s[1], y -> y.spread(0, 0, s[0], s[1]));
        }
        // every HOUR of the span counts, the first and the last: only there they differ
        x = Rig.with("wave a turns 1 in 24 size 1 at 6;");
        Rig.fine("0 in the first hour", x, x.spread(0, 0, 0, 1), NONE);
        spreadBy(x, NONE, 0, 0, 3);
        Rig.fine("0 in the last hour", x, x.spread(0, 0, 11, 12), NONE);
        spreadBy(x, NONE, 0, 0, 3);
    }

    private static void spreadTold() {
        Rig.says("Of spread() latest with STATUS 0, what 0: SIZE, 1: AT, 2: the sum of differences (5; for 0, 1: 8: no WAVE).");
        for (int what : new int[] {-1, 3, LEAST, MOST}) {
            Furnished.none(5, "what " + what, x -> x.spreadTold(what));
            TideDiscs x = new TideDiscs();
            Rig.refused("what " + what + " ahead of 8", x, x.spreadTold(what), 5);
        }
        TideDiscs x = Rig.with("wave a turns 1 in 24 size 5; wave b turns 1 in 24;");
        x.spread(0, 0, 1, 0);
        Rig.refused("refused", x, x.spreadTold(2), 8);
        x.spread(0, 0, 0, 23);
        spreadBy(x, 1, 5, 0, 0);
        Rig.refused("refused", x, x.spread(0, 2, 0, 0), 2);
        spreadBy(x, 1, 5, 0, 0);
        x.spread(0, 1, 0, 23);
        spreadBy(x, NONE, 0, 0, 0);
        x.machine(0, 0);
        spreadBy(x, NONE, 0, 0, 0);
    }

    // ---- promise 37

    private static void comparedByMore() {
        Rig.says("COMPARED are both MACHINES: the first HOUR of such a span in which their HEIGHTS TURNED differ by more than a number.");
        // they differ by COS of the HOUR
        for (int swapped = 0; swapped < 2; swapped++) {
            TideDiscs x = new TideDiscs();
            Rig.machine(x, swapped, "wave a turns 1 in 12 size 10 train 7 7;");
            Rig.machine(x, 1 - swapped, "wave a turns 1 in 48 size 9 train 9 9;");
            Rig.fine("by 12, more than 11", x, x.compare(0, 23, 11), 0);
            Rig.fine("by 12, not more than 12", x, x.compare(0, 23, 12), NONE);
            Rig.fine("by 10 and less", x, x.compare(2, 10, 10), NONE);
            Rig.fine("by 10, more than 9", x, x.compare(2, 10, 9), 2);
            Rig.fine("by -12 in the last", x, x.compare(2, 11, 11), 11);
            Rig.fine("0 does not differ", x, x.compare(6, 6, 0), NONE);
            Rig.fine("by -3, more than 0", x, x.compare(6, 7, 0), 7);
            Rig.fine("by -3, not more than 3", x, x.compare(6, 7, 3), NONE);
        }
        TideDiscs x = Rig.with("zero 99;");
        Rig.fine("by 1188", x, x.compare(5, 9, 1187), 5);
        Rig.fine("not by more than 1188", x, x.compare(5, 9, 1188), NONE);
    }

    private static void comparedSpans() {
        Rig.says("COMPARED: the HOUR; STATUS 0 also with NONE: in none (5: a span of at most 2,000, the number 0 to 99,999).");
        TideDiscs x = Rig.with("wave a turns 1 in 9999 size 1;");
        Rig.machine(x, 1, "zero 1;");
        // 12 to HOUR 833, then 10
        for (int[] s : LONGEST) {
            TideDiscs y = new TideDiscs();
            Rig.fine("from " + s[0] + " to " + s[1], y, y.compare(s[0], s[1], 0), NONE);
        }
        Rig.fine("the last of a span", x, x.compare(0, 834, 0), 834);
        Rig.fine("not to it", x, x.compare(0, 833, 0), NONE);
        Rig.fine("the first of a span", x, x.compare(834, 834, 0), 834);
        Rig.fine("the greatest number", x, x.compare(0, 1999, 99999), NONE);
    }

    private static void compareRefused() {
        for (int[] s : TOO_LONG) {
            Furnished.none(5, "from " + s[0] + " to " + s[1], x -> x.compare(s[0], s[1], 0));
        }
        for (int[] s : NO_SPANS) {
            Furnished.none(5, "from " + s[0] + " to " + s[1], x -> x.compare(s[0], s[1], 0));
        }
        for (int more : new int[] {-1, 100000, LEAST, MOST}) {
            Furnished.none(5, "more than " + more, x -> x.compare(0, 9, more));
        }
    }
}
