/** The edges of promises 38 to 45: DAYS and their last HOURS, HIGH and LOW WATER, WEAR, LASTS, trades. */
public final class DayEdgesTest {
    private static final int LEAST = Integer.MIN_VALUE;
    private static final int MOST = Integer.MAX_VALUE;
    private static final int LAST_DAY = 4166;
    private static final int[] NO_DAYS = {-1, LAST_DAY + 1, LEAST, MOST};
    private static final int[] NO_MACHINES = {-1, 2, LEAST, MOST};

    public static void main(String[] args) {
        dayNumbers();
        lastDay();
        hourAboveZero();
        overTheDaysEnds();
        longAlike();
        shoulders();
        hoursLookedAt();
        numberedFromZero();
        turnedWaters();
        stillWaters();
        watersRefused();
        waterRefused();
        rangeOfADay();
        rangeRefused();
        gapAtMost();
        gapToTheLastHour();
        gapRefused();
        wearOfWheels();
        wearRoundedDown();
        wearFarthest();
        wornRefused();
        lastsByHours();
        lastsOfSeveral();
        lastsLimits();
        tradeRounded();
        tradeFound();
        tradeOfSeveral();
        tradeNone();
        tradeRefused();
        tradedTold();
        Rig.end();
    }

    /** A WAVE by COS, once a DAY; its HIGH WATER is where PLACE 23 begins, its LOW WATER where PLACE 11 does. */
    private static TideDiscs daily(int at) {
        return Rig.with("wave a turns 1 in 24 size 1 at " + at + ";");
    }

    private static void waters(String what, TideDiscs x, int day, boolean high, int... hours) {
        Rig.fine(what, x, x.waters(0, day, high, false), hours.length);
        for (int k = 0; k < hours.length; k++) {
            Rig.fine(what + ", water " + k, x, x.water(0, day, high, false, k), hours[k]);
        }
        Rig.refused(what + ", no more", x, x.water(0, day, high, false, hours.length), 8);
    }

    // ---- DAYS

    private static void dayNumbers() {
        Rig.says("DAY d is the 24 HOURS from 24 times d on (d 0 to 4,166, its HOURS to 99,999 alone).");
        TideDiscs x = daily(0);
        waters("the first day", x, 0, true, 23);
        waters("the first day, low", x, 0, false, 11);
        waters("the second day", x, 1, true, 47);
        waters("a day", x, 100, false, 2411);
        waters("the last whole day", x, 4165, true, 24 * 4165 + 23);
        for (int day : NO_DAYS) {
            Furnished.none(5, "waters of day " + day, y -> y.waters(0, day, true, false));
            Furnished.none(5, "water of day " + day, y -> y.water(0, day, true, false, 0));
            Furnished.none(5, "range of day " + day, y -> y.range(0, day, false));
            Furnished.none(5, "gap of day " + day, y -> y.gap(0, day, false, 0));
        }
    }

    private static void lastDay() {
        Rig.says("its HOURS to 99,999 alone");
        // HOUR 99,984 is the first of DAY 4,166, HOUR 99,999 its 16th
        waters("the first hour", daily(23), LAST_DAY, true, 99984);
        waters("the last hour", daily(8), LAST_DAY, true, 99999);
        waters("behind the last hour", daily(7), LAST_DAY, true);
        waters("the last hour, low", daily(20), LAST_DAY, false, 99999);
        waters("behind the last hour, low", daily(19), LAST_DAY, false);
        for (int at = 0; at < 24; at++) {
            int high = 99984 + Math.floorMod(23 - at, 24);
            int[] wants = high <= 99999 ? new int[] {high} : new int[0];
            waters("at " + at, daily(at), LAST_DAY, true, wants);
        }
    }

    // ---- HIGH WATER, LOW WATER

    private static void hourAboveZero() {
        Rig.says("HIGH WATER (LOW WATER) is an HOUR above 0 in which HEIGHT is greater (less) than in the HOUR ahead");
        // PLACE 23 begins at HOUR 0, and again at HOUR 24
        waters("hour 0 is none", daily(23), 0, true);
        waters("a day later", daily(23), 1, true, 24);
        waters("hour 0 is none, low", daily(11), 0, false);
        waters("a day later, low", daily(11), 1, false, 24);
        waters("hour 1", daily(22), 0, true, 1);
        waters("hour 1, low", daily(10), 0, false, 1);
        // alike from HOUR 0 to 1, then less: no HOUR is greater than the one ahead
        waters("highest from hour 0 on", daily(0), 0, true, 23);
        waters("least from hour 0 on", daily(12), 0, false, 23);
    }

    private static void overTheDaysEnds() {
        // the HOUR ahead of the first is of the DAY ahead, what is behind the last is of the next one
        waters("the last hour of a day", daily(0), 3, true, 95);
        waters("the first hour of a day", daily(23), 3, true, 72);
        waters("the last hour of a day, low", daily(12), 3, false, 95);
        waters("the first hour of a day, low", daily(11), 3, false, 72);
    }

    private static void longAlike() {
        Rig.says("and behind which HEIGHT, as long as it stays alike, next is less (greater)");
        // 5 HOURS a PLACE: PLACE 23 begins at 115, PLACE 2 at 130; PLACE 11 at 55, PLACE 14 at 70
        TideDiscs x = Rig.with("wave a turns 1 in 120 size 1;");
        waters("its first hour", x, 115 / 24, true, 115);
        waters("none in the next day", x, 115 / 24 + 1, true);
        waters("low, its first hour", x, 55 / 24, false, 55);
        // 100 HOURS a PLACE: PLACE 23 begins at 2,300 and stays alike to 2,600
        x = Rig.with("wave a turns 1 in 2400 size 1;");
        waters("days long", x, 2300 / 24, true, 2300);
        waters("and no other", x, 2600 / 24, true);
        waters("days long, low", x, 1100 / 24, false, 1100);
    }

    private static void shoulders() {
        // 5 HOURS a PLACE: it falls, stays, falls, stays ..: only where it turns there is water
        TideDiscs x = Rig.with("wave a turns 1 in 120 size 1;");
        int high = 0;
        int low = 0;
        for (int day = 0; day < 10; day++) {
            high += x.waters(0, day, true, false);
            low += x.waters(0, day, false, false);
        }
        Rig.due("ten days, two turns, high", high, 2);
        Rig.due("ten days, two turns, low", low, 2);
    }

    private static void hoursLookedAt() {
        Rig.says("the HOURS looked at go to 100,100.");
        // 50 HOURS a PLACE, and PLACE 2 (or 14) begins at HOUR 100,100: from 99,950 on it was alike
        for (String speed : new String[] {"turns 1 in 1200", "turns 1 in 24 train 5 50 5 25"}) {
            boolean turned = speed.contains("train");
            TideDiscs x = Rig.with("wave a " + speed + " size 1 at 16;");
            Rig.fine("less in 100,100", x, x.water(0, 99950 / 24, true, turned, 0), 99950);
            Rig.fine("one", x, x.waters(0, 99950 / 24, true, turned), 1);
            x.set(0, 0, 1, 4);
            Rig.fine("greater in 100,100", x, x.water(0, 99950 / 24, false, turned, 0), 99950);
        }
        // 61 HOURS a PLACE, and PLACE 2 (or 14) begins at HOUR 100,101: from 99,918 on it is alike to the end
        TideDiscs x = Rig.with("wave a turns 1 in 1464 size 1 at 17;");
        Rig.fine("it is less too late", x, x.waters(0, 99918 / 24, true, false), 0);
        Rig.refused("it is less too late", x, x.water(0, 99918 / 24, true, false, 0), 8);
        x.set(0, 0, 1, 5);
        Rig.fine("it is greater too late", x, x.waters(0, 99918 / 24, false, false), 0);
        // AT a PLACE more, PLACE 2 begins at 100,040, and PLACE 23 began at 99,857
        x.set(0, 0, 1, 18);
        Rig.fine("in time", x, x.water(0, 99857 / 24, true, false, 0), 99857);
    }

    private static void numberedFromZero() {
        Rig.says("Of a DAY these are numbered from 0.");
        // 12 and -12 in turn: as many as a DAY can have
        TideDiscs x = Rig.with("wave a turns 1 in 2 size 1;");
        waters("hour 0 is none", x, 0, true, 2, 4, 6, 8, 10, 12, 14, 16, 18, 20, 22);
        waters("low", x, 0, false, 1, 3, 5, 7, 9, 11, 13, 15, 17, 19, 21, 23);
        waters("a full day", x, 1, true, 24, 26, 28, 30, 32, 34, 36, 38, 40, 42, 44, 46);
        waters("the last day", x, LAST_DAY, true, 99984, 99986, 99988, 99990, 99992, 99994, 99996, 99998);
        waters("the last day, low", x, LAST_DAY, false, 99985, 99987, 99989, 99991, 99993, 99995, 99997, 99999);
        for (int k : new int[] {-1, 11, 24, LEAST, MOST}) {
            Rig.refused("water " + k, x, x.water(0, 0, true, false, k), 8);
            Rig.refused("gap " + k, x, x.gap(0, 0, false, k), 8);
        }
        Rig.fine("the last of a day", x, x.gap(0, 0, false, 10), 2);
    }

    private static void turnedWaters() {
        TideDiscs x = Rig.with("wave a turns 1 in 2 size 1 train 9 9;");
        Rig.fine("true", x, x.waters(0, 1, true, false), 12);
        Rig.fine("turned", x, x.waters(0, 1, true, true), 1);
        Rig.fine("turned", x, x.water(0, 1, true, true, 0), 47);
        Rig.fine("turned, low", x, x.water(0, 1, false, true, 0), 35);
        Rig.fine("turned", x, x.gap(0, 1, true, 0), 24);
        Rig.fine("true", x, x.gap(0, 1, false, 0), 2);
    }

    private static void stillWaters() {
        for (String still : new String[] {"", "zero 9;", "wave a turns 1 in 24;", "wave a turns 1 in 1 size 9 at 3;"}) {
            TideDiscs x = Rig.with(still);
            for (int day : new int[] {0, 1, LAST_DAY}) {
                waters("nothing moves", x, day, true);
                waters("nothing moves", x, day, false);
                Rig.refused("no gap", x, x.gap(0, day, false, 0), 8);
            }
        }
        // two WAVES that undo each other
        TideDiscs x = Rig.with("wave a turns 1 in 24 size 7; wave b turns 1 in 24 size 7 at 12;");
        waters("together nothing moves", x, 2, true);
    }

    private static void watersRefused() {
        Rig.says("How many HIGH WATERS (high), or LOW ones, a DAY has (2; 5).");
        for (int m : NO_MACHINES) {
            Furnished.none(2, "machine " + m, x -> x.waters(m, 0, true, false));
            Furnished.none(2, "machine " + m + " ahead of 5", x -> x.waters(m, -1, false, true));
        }
    }

    private static void waterRefused() {
        Rig.says("The HOUR of the k-th of these (2; 5; 8: none such).");
        for (int m : NO_MACHINES) {
            Furnished.none(2, "machine " + m, x -> x.water(m, 0, true, false, 0));
            Furnished.none(2, "machine " + m + " ahead of 5, 8", x -> x.water(m, LAST_DAY + 1, true, false, 99));
        }
        Furnished.none(5, "5 ahead of 8", x -> x.water(0, -1, true, false, -1));
        for (int k : new int[] {-1, 12, 24, 99, LEAST, MOST}) {
            Furnished.none(8, "water " + k, x -> x.water(0, 1, true, true, k));
            Furnished.none(8, "low water " + k, x -> x.water(1, 1, false, false, k));
        }
    }

    // ---- promise 40

    private static void rangeOfADay() {
        Rig.says("RANGE of a DAY: its greatest HEIGHT less its least.");
        TideDiscs x = Rig.with("wave a turns 1 in 24 size 99 at 5 train 5 200; zero 99;");
        Rig.fine("a day", x, x.range(0, 0, false), 99 * 24);
        Rig.fine("the last whole day", x, x.range(0, 4165, false), 99 * 24);
        // TURNED it stays at PLACE 5 (3) to HOUR 39, then 0
        Rig.fine("turned, alike", x, x.range(0, 0, true), 0);
        Rig.fine("turned, by one place", x, x.range(0, 1, true), 99 * 3);
        // DAY 4,166 has PLACES AT to AT and 15: from 14 on -10 to 12, from 2 on 10 to -12
        x = daily(14);
        Rig.fine("the last day, without its least", x, x.range(0, LAST_DAY, false), 22);
        Rig.fine("the day ahead", x, x.range(0, 4165, false), 24);
        x = daily(2);
        Rig.fine("the last day, without its highest", x, x.range(0, LAST_DAY, false), 22);
        // its first and its last HOUR count: PLACES 13 to 4 and 20 to 11
        x = daily(13);
        Rig.fine("the first hour counts", x, x.range(0, LAST_DAY, false), 24);
        x = daily(20);
        Rig.fine("the last hour counts", x, x.range(0, LAST_DAY, false), 24);
        // a DAY's first and last HOURS alone: 24 HOURS a PLACE, PLACE 2 (10) begins at HOUR 48
        x = Rig.with("wave a turns 1 in 576 size 1;");
        Rig.fine("up to the last hour", x, x.range(0, 1, false), 0);
        Rig.fine("from the first hour on", x, x.range(0, 2, false), 0);
        x = Rig.with("wave a turns 1 in 552 size 1;");
        // 23 HOURS a PLACE: PLACE 2 begins at HOUR 46, PLACE 3 at HOUR 69
        Rig.fine("in the last but one hour", x, x.range(0, 1, false), 2);
        Rig.fine("within", x, x.range(0, 2, false), 2);
        Rig.fine("without waves", x, x.range(1, LAST_DAY, true), 0);
    }

    private static void rangeRefused() {
        Rig.says("RANGE (2; 5).");
        for (int m : NO_MACHINES) {
            Furnished.none(2, "machine " + m, x -> x.range(m, 0, true));
            Furnished.none(2, "machine " + m + " ahead of 5", x -> x.range(m, -1, true));
        }
    }

    // ---- promise 41

    private static void gapAtMost() {
        Rig.says("(also of a later DAY, at most 200 HOURS behind it, and not above 99,999)");
        // HIGH WATER where PLACE 23 begins: at 192 of 200 HOURS, at 193 of 201
        TideDiscs x = Rig.with("wave a turns 1 in 200 size 1;");
        Rig.fine("there", x, x.water(0, 192 / 24, true, false, 0), 192);
        Rig.fine("just 200", x, x.gap(0, 192 / 24, false, 0), 200);
        x = Rig.with("wave a turns 1 in 201 size 1;");
        Rig.fine("there", x, x.water(0, 193 / 24, true, false, 0), 193);
        Rig.refused("201", x, x.gap(0, 193 / 24, false, 0), 8);
        x = Rig.with("wave a turns 1 in 24 size 1 train 12 100;");
        Rig.fine("turned, just 200", x, x.gap(0, 192 / 24, true, 0), 200);
        x = Rig.with("wave a turns 1 in 2 size 1;");
        for (int k = 0; k < 11; k++) {
            Rig.fine("of the same day", x, x.gap(0, 0, false, k), 2);
        }
        // the next one, not the one behind it; LOW WATER between is no matter
        x = Rig.with("wave a turns 2 in 24 size 9; wave b turns 1 in 24 size 2;");
        int first = x.water(0, 1, true, false, 0);
        Rig.fine("the next one", x, x.gap(0, 1, false, 0), x.water(0, 1, true, false, 1) - first);
    }

    private static void gapToTheLastHour() {
        // HIGH WATER at 99,975 and 99,999
        TideDiscs x = daily(8);
        Rig.fine("to the last hour", x, x.gap(0, 4165, false, 0), 24);
        Rig.refused("behind it there is none", x, x.gap(0, LAST_DAY, false, 0), 8);
        // HIGH WATER at 99,976, and the next would be at 100,000
        x = daily(7);
        Rig.fine("there", x, x.water(0, 4165, true, false, 0), 99976);
        Rig.refused("above the last hour", x, x.gap(0, 4165, false, 0), 8);
        Rig.refused("none such", x, x.gap(0, LAST_DAY, false, 0), 8);
    }

    private static void gapRefused() {
        Rig.says("GAP behind the k-th HIGH WATER (2; 5; 8: none such, none behind it).");
        for (int m : NO_MACHINES) {
            Furnished.none(2, "machine " + m, x -> x.gap(m, 0, true, 0));
            Furnished.none(2, "machine " + m + " ahead of 5, 8", x -> x.gap(m, -1, true, -1));
        }
        Furnished.none(5, "5 ahead of 8", x -> x.gap(0, LAST_DAY + 1, false, -1));
        for (int k : new int[] {-1, 12, 24, LEAST, MOST}) {
            Furnished.none(8, "high water " + k, x -> x.gap(0, 1, true, k));
        }
    }

    // ---- promise 42

    private static void wearOfWheels() {
        Rig.says("the first driver turns once in 24 HOURS, a driven one as often as its driver times that one's teeth by its own, the second driver as often as the first driven one.");
        TideDiscs x = Rig.with("wave a turns 1 in 1 train 60 20 50 30;");
        // by 24 HOURS: 60 teeth, 60; three turns of 50: 150, 150
        int[] wants = {60, 60, 150, 150};
        for (int k = 0; k < 4; k++) {
            Rig.fine("no hours", x, x.worn(0, 0, k, 0), 0);
            Rig.fine("a day", x, x.worn(0, 0, k, 24), wants[k]);
            Rig.fine("ten days", x, x.worn(0, 0, k, 240), 10 * wants[k]);
        }
        x = Rig.with("wave a turns 1 in 1; wave b turns 1 in 1 train 60 20;");
        Rig.fine("one couple", x, x.worn(0, 1, 0, 24), 60);
        Rig.fine("one couple", x, x.worn(0, 1, 1, 24), 60);
        Rig.says("(2; 5: HOURS 0 to 99,999; 8: it has none such)");
        Rig.refused("no second couple", x, x.worn(0, 1, 2, 24), 8);
        Rig.refused("no second couple", x, x.worn(0, 1, 3, 24), 8);
        for (int k = 0; k < 4; k++) {
            Rig.refused("no train", x, x.worn(0, 0, k, 24), 8);
        }
    }

    private static void wearRoundedDown() {
        Rig.says("WEAR of a wheel of a TRAIN by so many HOURS: how often it turned, times its teeth, rounded down");
        TideDiscs x = Rig.with("wave a turns 1 in 1 train 5 7 6 11;");
        // 5 h by 24; 30 h by 168
        for (int h = 0; h < 40; h++) {
            Rig.fine("hour " + h, x, x.worn(0, 0, 0, h), 5 * h / 24);
            Rig.fine("hour " + h, x, x.worn(0, 0, 1, h), 5 * h / 24);
            Rig.fine("hour " + h, x, x.worn(0, 0, 2, h), 30 * h / 168);
            Rig.fine("hour " + h, x, x.worn(0, 0, 3, h), 30 * h / 168);
        }
    }

    private static void wearFarthest() {
        TideDiscs x = Rig.with("wave a turns 1 in 1 train 200 5 200 5; wave b turns 1 in 1 train 5 200 5 200;");
        Rig.fine("the most, first couple", x, x.worn(0, 0, 1, 99999), 833325);
        Rig.fine("the most, second couple", x, x.worn(0, 0, 3, 99999), 33333000);
        Rig.fine("the least, first couple", x, x.worn(0, 1, 0, 99999), 5 * 99999 / 24);
        Rig.fine("the least, second couple", x, x.worn(0, 1, 2, 99999), 25 * 99999 / 4800);
    }

    private static void wornRefused() {
        Rig.says("WEAR of wheel k (0 to 3)");
        for (int k : new int[] {-1, 4, LEAST, MOST}) {
            Furnished.none(2, "wheel " + k, x -> x.worn(0, 1, k, 24));
            Furnished.none(2, "wheel " + k + " ahead of 5", x -> x.worn(0, 1, k, -1));
            Furnished.none(2, "wheel " + k + " ahead of 8", x -> x.worn(0, 2, k, 24));
        }
        for (int w : new int[] {-1, 3, LEAST, MOST}) {
            Furnished.none(2, "wave " + w, x -> x.worn(0, w, 0, 24));
            Furnished.none(2, "wave " + w + " ahead of 5", x -> x.worn(0, w, 0, 100000));
        }
        for (int m : NO_MACHINES) {
            Furnished.none(2, "machine " + m, x -> x.worn(m, 0, 0, 24));
        }
        for (int h : new int[] {-1, 100000, LEAST, MOST}) {
            Furnished.none(5, "hours " + h, x -> x.worn(0, 1, 3, h));
            Furnished.none(5, "hours " + h + " ahead of 8", x -> x.worn(0, 2, 0, h));
            Furnished.none(5, "hours " + h + " ahead of 8", x -> x.worn(0, 0, 2, h));
        }
        for (int k : new int[] {2, 3}) {
            Furnished.none(8, "wheel " + k + " of one couple", x -> x.worn(0, 0, k, 24));
        }
        for (int k = 0; k < 4; k++) {
            int wheel = k;
            Furnished.none(8, "wheel " + k + " of no train", x -> x.worn(0, 2, wheel, 24));
        }
    }

    // ---- promise 43

    private static void lastsByHours() {
        Rig.says("LASTS: the first HOUR (0 to 99,999) by which the WEAR of some wheel of a MACHINE is a LIMIT (1 to 9,999,999) or more.");
        String[] trains = {"5 200", "200 5", "7 11 13 17", "5 7 6 11", "17 13 11 7", "200 5 200 5", "5 200 5 200"};
        for (String train : trains) {
            TideDiscs x = Rig.with("wave a turns 1 in 1 train " + train + ";");
            for (int limit : new int[] {1, 2, 5, 7, 24, 100, 999}) {
                int hour = x.lasts(0, limit);
                Rig.due("status", x.status(), 0);
                Rig.due("a limit of " + limit + " by then", most(x, hour) >= limit, true);
                Rig.due("a limit of " + limit + " not a HOUR ahead", most(x, hour - 1) < limit, true);
            }
        }
    }

    private static int most(TideDiscs x, int hours) {
        int most = x.worn(0, 0, 0, hours);
        return Math.max(most, x.worn(0, 0, 2, hours));
    }

    private static void lastsOfSeveral() {
        Rig.says("the WEAR of some wheel of a MACHINE");
        // 10 teeth a DAY, 30 teeth a DAY by its second couple, 20 teeth a DAY
        String[] waves = {"wave a turns 1 in 1 train 10 5;", "wave b turns 1 in 1 train 6 5 25 5;", "wave c turns 1 in 1 train 20 5;"};
        int[] wants = {24, 8, 12};
        for (int i = 0; i < 3; i++) {
            TideDiscs x = Rig.with(waves[i]);
            Rig.fine("each alone", x, x.lasts(0, 10), wants[i]);
        }
        int[][] orders = {{0, 1, 2}, {2, 1, 0}, {1, 0, 2}, {2, 0, 1}};
        for (int[] o : orders) {
            TideDiscs x = Rig.with("wave z turns 1 in 1;" + waves[o[0]] + waves[o[1]] + waves[o[2]]);
            Rig.fine("the first of all", x, x.lasts(0, 10), 8);
        }
        TideDiscs x = Rig.with(waves[0] + waves[2]);
        Rig.fine("the quicker one", x, x.lasts(0, 10), 12);
        // a second couple that wears less than the first one: 100 a DAY, 5 a DAY
        x = Rig.with("wave a turns 1 in 1 train 100 200 10 5;");
        Rig.fine("the first couple", x, x.lasts(0, 100), 24);
    }

    private static void lastsLimits() {
        Rig.says("LASTS (2; 5; 8: none does).");
        TideDiscs x = Rig.with("wave a turns 1 in 1 train 200 5;");
        // 200 teeth a DAY: 833,325 by HOUR 99,999
        Rig.fine("the last hour", x, x.lasts(0, 833325), 99999);
        Rig.refused("not by then", x, x.lasts(0, 833326), 8);
        Rig.refused("not by then", x, x.lasts(0, 9999999), 8);
        Rig.fine("the least limit", x, x.lasts(0, 1), 1);
        x = Rig.with("wave a turns 1 in 1 train 200 5 200 5;");
        // 8,000 teeth a DAY
        Rig.fine("the greatest limit", x, x.lasts(0, 9999999), 30000);
        Rig.fine("the least limit", x, x.lasts(0, 1), 1);
        x = Rig.with("wave a turns 1 in 1 train 5 5;");
        // 5 teeth a DAY: 20,833 by HOUR 99,999
        Rig.fine("the least limit", x, x.lasts(0, 1), 5);
        Rig.fine("nearly the last hour", x, x.lasts(0, 20833), 99999);
        Rig.refused("not by then", x, x.lasts(0, 20834), 8);
        Rig.refused("no train", x, x.lasts(1, 1), 8);
        for (int limit : new int[] {0, -1, 10000000, LEAST, MOST}) {
            Furnished.none(5, "limit " + limit, y -> y.lasts(0, limit));
            Furnished.none(5, "limit " + limit, y -> y.lasts(1, limit));
        }
        for (int m : NO_MACHINES) {
            Furnished.none(2, "machine " + m, y -> y.lasts(m, 1));
            Furnished.none(2, "machine " + m + " ahead of 5", y -> y.lasts(m, 0));
        }
        Furnished.none(8, "none does", y -> y.lasts(0, 9999999));
    }

    // ---- promises 44 and 45

    private static void tradeRounded() {
        Rig.says("by so many HOURS each TRAIN of both is OFF by so many thousandths of a PLACE (rounded down)");
        TideDiscs x = Rig.with("wave a turns 1 in 24 train 10 30;");
        Rig.fine("two thirds", x, x.trade(1), 666);
        Rig.fine("four thirds", x, x.trade(2), 1333);
        Rig.fine("two", x, x.trade(3), 2000);
        Rig.fine("by no hours", x, x.trade(0), 0);
        Rig.fine("by all hours", x, x.trade(99999), 66666000);
        // each one is rounded, not all together
        x = Rig.with("wave a turns 1 in 24 train 10 30; wave b turns 1 in 24 train 10 30;");
        Rig.fine("two thirds twice", x, x.trade(1), 1332);
        x = new TideDiscs();
        Rig.machine(x, 1, "wave a turns 1 in 24 train 10 30; wave b turns 1 in 24;");
        Rig.fine("of machine 1", x, x.trade(1), 666);
        x = Rig.with("wave a turns 9999 in 9998 train 120 5;");
        // 24 by 9,998 is 2.4 thousandths
        Rig.fine("2.4 thousandths", x, x.trade(1), 2);
        Rig.machine(x, 0, "wave a turns 1 in 9999 train 5 200 19 198;");
        // 24 by 9,999 less 95 by 39,600: 0.0024002.. less 0.0023989..: a thousandth of that
        Rig.fine("less than a thousandth", x, x.trade(1), 0);
        // as far as it goes: 12 TRAINS
        StringBuilder six = new StringBuilder();
        for (int i = 0; i < 6; i++) {
            six.append("wave ").append((char) ('a' + i)).append(" turns 9999 in 1 train 9 9 9 9;");
        }
        x = Rig.with(six.toString());
        Rig.machine(x, 1, six.toString());
        // 239,976 less 1 PLACES a HOUR each
        Rig.fine("all of them far off", x, x.trade(99999), 12L * 239975 * 99999 * 1000);
    }

    private static void tradeFound() {
        Rig.says("TRADED: a wheel of a TRAIN of MACHINE 0 for one of MACHINE 1");
        // 10 by 20 and 40 by 10 (for two a HOUR): the 20 for the 10, and both fit
        TideDiscs x = Rig.with("wave z turns 1 in 24; wave a turns 1 in 24 train 7 7 10 20;");
        Rig.machine(x, 1, "wave y turns 1 in 24; wave b turns 2 in 24 train 9 9 40 10;");
        Rig.fine("all fit", x, x.trade(1000), 0);
        traded(x, 1, 3, 1, 3);
        Rig.fine("no wheel is changed", x, x.wave(0, 1, 7), 20);
        Rig.fine("no wheel is changed", x, x.wave(1, 1, 7), 10);
        // a driving one for a driven one: 20 by 10 and 9 by 10 (for 9 by 20)
        x = Rig.with("wave a turns 1 in 24 train 20 10;");
        Rig.machine(x, 1, "wave b turns 9 in 480 train 9 10;");
        Rig.fine("all fit", x, x.trade(1000), 0);
        traded(x, 0, 0, 0, 1);
        x = Rig.with("wave b turns 9 in 480 train 9 10;");
        Rig.machine(x, 1, "wave a turns 1 in 24 train 20 10;");
        Rig.fine("all fit", x, x.trade(1000), 0);
        traded(x, 0, 1, 0, 0);
        // no TRAIN, no wheel: a WAVE without one is no partner
        x = Rig.with("wave a turns 1 in 24 train 20 10;");
        Rig.machine(x, 1, "wave b turns 1 in 24;");
        Rig.fine("one", x, x.trade(1), 1000);
        Rig.refused("none is traded", x, x.traded(0), 8);
    }

    private static void traded(TideDiscs x, int... wants) {
        for (int what = 0; what < 4; what++) {
            Rig.fine("traded " + what, x, x.traded(what), wants[what]);
        }
    }

    private static void tradeOfSeveral() {
        Rig.says("the exchange by which all these together are least; of several none, then the lesser WAVE, wheel of MACHINE 0, WAVE, wheel of MACHINE 1.");
        String half = " turns 1 in 24 train 10 20;";
        String twice = " turns 1 in 24 train 20 10;";
        // 10 for 20 or 20 for 10: the lesser wheel of MACHINE 0
        TideDiscs x = Rig.with("wave a" + half);
        Rig.machine(x, 1, "wave b" + twice);
        Rig.fine("both fit", x, x.trade(1), 0);
        traded(x, 0, 0, 0, 0);
        // the lesser WAVE of MACHINE 0
        x = Rig.with("wave a" + half + "wave b" + half);
        Rig.machine(x, 1, "wave c" + twice);
        Rig.fine("one stays off", x, x.trade(1), 500);
        traded(x, 0, 0, 0, 0);
        // the lesser WAVE of MACHINE 1
        x = Rig.with("wave a" + half);
        Rig.machine(x, 1, "wave z turns 1 in 24 train 10 10; wave c" + twice + "wave d" + twice);
        Rig.fine("one stays off", x, x.trade(1), 1000);
        traded(x, 0, 0, 1, 0);
        // the lesser wheel of MACHINE 1: 20 of wheel 0 or of wheel 2
        x = Rig.with("wave a" + half);
        Rig.machine(x, 1, "wave c turns 2 in 24 train 20 10 20 10;");
        Rig.fine("both fit", x, x.trade(1), 0);
        traded(x, 0, 0, 0, 0);
    }

    private static void tradeNone() {
        // like wheels: any exchange leaves all as it is
        TideDiscs x = Rig.with("wave a turns 1 in 24 train 10 10;");
        Rig.machine(x, 1, "wave b turns 1 in 24 train 10 10;");
        Rig.fine("all fit", x, x.trade(99999), 0);
        Rig.refused("none", x, x.traded(0), 8);
        x = Rig.with("wave a turns 2 in 24 train 10 10;");
        Rig.machine(x, 1, "wave b turns 2 in 24 train 10 10;");
        Rig.fine("as far off as ever", x, x.trade(1), 2000);
        Rig.refused("none", x, x.traded(0), 8);
        // by no HOURS nothing is OFF, so none is traded
        x = Rig.with("wave a turns 1 in 24 train 10 20;");
        Rig.machine(x, 1, "wave b turns 1 in 24 train 20 10;");
        Rig.fine("by no hours", x, x.trade(0), 0);
        Rig.refused("none", x, x.traded(0), 8);
        Rig.fine("by one hour", x, x.trade(1), 0);
        traded(x, 0, 0, 0, 0);
        // any exchange would be worse
        x = Rig.with("wave a turns 1 in 24 train 10 10;");
        Rig.machine(x, 1, "wave b turns 2 in 24 train 20 10;");
        Rig.fine("they fit", x, x.trade(1), 0);
        Rig.refused("none", x, x.traded(0), 8);
    }

    private static void tradeRefused() {
        Rig.says("TRADED: what all is OFF by then (5: HOURS 0 to 99,999).");
        for (int h : new int[] {-1, 100000, LEAST, MOST}) {
            Furnished.none(5, "hours " + h, x -> x.trade(h));
        }
    }

    private static void tradedTold() {
        Rig.says("Of trade() latest with STATUS 0, what 0: the WAVE, 1: the wheel of MACHINE 0, 2, 3: of MACHINE 1 (5; 8: none is traded).");
        for (int what : new int[] {-1, 4, LEAST, MOST}) {
            Furnished.none(5, "what " + what, x -> x.traded(what));
            TideDiscs x = new TideDiscs();
            Rig.refused("what " + what + " ahead of 8", x, x.traded(what), 5);
        }
        TideDiscs x = Rig.with("wave a turns 1 in 24 train 10 20;");
        Rig.machine(x, 1, "wave b turns 1 in 24 train 20 10;");
        x.trade(-1);
        Rig.refused("refused", x, x.traded(0), 8);
        x.trade(1);
        traded(x, 0, 0, 0, 0);
        x.trade(-1);
        traded(x, 0, 0, 0, 0);
        x.machine(0, 0);
        traded(x, 0, 0, 0, 0);
        x.trade(1);
        Rig.refused("none this time", x, x.traded(0), 8);
    }
}
