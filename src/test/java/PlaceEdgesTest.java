import java.math.BigInteger;

/** The edges of promises 15 to 18: PLACES, HEIGHTS, the POINTER, OFF. */
public final class PlaceEdgesTest {
    private static final int LEAST = Integer.MIN_VALUE;
    private static final int MOST = Integer.MAX_VALUE;
    private static final int[] COS = {
        12, 12, 10, 8, 6, 3, 0, -3, -6, -8, -10, -12, -12, -12, -10, -8, -6, -3, 0, 3, 6, 8, 10, 12
    };

    public static void main(String[] args) {
        cosOfEachPlace();
        sinOfEachPlace();
        aroundTheTurn();
        trueRoundedDown();
        turnedRoundedDown();
        turnedWithoutATrain();
        farPlaces();
        placeRefused();
        heightsSummed();
        heightRefused();
        pointerBySlack();
        pointerFromAnHour();
        pointerFarthest();
        pointerRefused();
        offByHours();
        offByHowMuch();
        offRefused();
        Rig.end();
    }

    // ---- a turn

    private static void cosOfEachPlace() {
        Rig.says("A turn has 24 PLACES. COS of a PLACE from 0 on: 12 12 10 8 6 3 0 -3 -6 -8 -10 -12 -12 -12 -10 -8 -6 -3 0 3 6 8 10 12;");
        TideDiscs x = Rig.with("wave a turns 1 in 24 size 1;");
        for (int p = 0; p < 24; p++) {
            Rig.fine("by the hour", x, x.height(0, p, false), COS[p]);
            Rig.fine("a turn later", x, x.height(0, p + 24, true), COS[p]);
        }
        for (int p = 0; p < 24; p++) {
            x.set(0, 0, 1, p);
            Rig.fine("by AT", x, x.height(0, 0, false), COS[p]);
        }
    }

    private static void sinOfEachPlace() {
        Rig.says("SIN of a PLACE: COS of the one that is 6 less (or 18 more).");
        // three readings at PLACES 0, 12 and p are met: the mean is 0, COS's part 0, SIN's part 1, if what is read is SIN
        TideDiscs x = Rig.with("wave a turns 1 in 24;");
        for (int p = 1; p < 24; p++) {
            int sin = COS[(p + 18) % 24];
            if (sin == 0) {
                continue;
            }
            Rig.fill(x, 0, 0, 12, p);
            Rig.fill(x, 1, 0, 0, sin);
            Rig.fine("sin's part", x, x.settings(0, 0, 0, 0, 1, 3, 2));
            Rig.fraction("place " + p, x, 1, 1);
            Rig.fine("cos's part", x, x.settings(0, 0, 0, 0, 1, 3, 1));
            Rig.fraction("place " + p, x, 0, 1);
        }
    }

    private static void aroundTheTurn() {
        Rig.says("rounded down (without a TRAIN: TRUE): of that what is left by 24.");
        TideDiscs x = Rig.with("wave a turns 1 in 24 at 23 train 9 9; wave b turns 1 in 24; wave c turns 1 in 1 at 5 train 24 12 12 24;");
        Rig.fine("23", x, x.place(0, 0, 0, false), 23);
        Rig.fine("around", x, x.place(0, 0, 1, false), 0);
        Rig.fine("23 turned", x, x.place(0, 0, 0, true), 23);
        Rig.fine("around turned", x, x.place(0, 0, 1, true), 0);
        Rig.fine("not yet around", x, x.place(0, 1, 23, false), 23);
        Rig.fine("around", x, x.place(0, 1, 24, false), 0);
        Rig.fine("again", x, x.place(0, 1, 47, true), 23);
        Rig.fine("again", x, x.place(0, 1, 48, true), 0);
        // a whole turn each HOUR
        Rig.fine("as it was", x, x.place(0, 2, 1, false), 5);
        Rig.fine("as it was", x, x.place(0, 2, 99999, false), 5);
        Rig.fine("one a HOUR", x, x.place(0, 2, 19, true), 0);
    }

    private static void trueRoundedDown() {
        Rig.says("TRUE: AT, and 24 times TURNS times the HOUR by its HOURS, rounded down");
        TideDiscs x = Rig.with("wave a turns 1 in 9999; wave b turns 5 in 7 at 1; wave c turns 9999 in 9998;");
        // 9,999 by 24 is 416.6
        Rig.fine("just not one", x, x.place(0, 0, 416, false), 0);
        Rig.fine("just one", x, x.place(0, 0, 417, false), 1);
        Rig.fine("just not a turn", x, x.place(0, 0, 9998, false), 23);
        Rig.fine("a turn", x, x.place(0, 0, 9999, false), 0);
        // 120 h by 7: 17.1, 34.3, 51.4, 68.6, 85.7, 102.9, 120
        int[] wants = {1, 18, 35 - 24, 52 - 48, 69 - 48, 86 - 72, 103 - 96, 121 - 120};
        for (int h = 0; h < 8; h++) {
            Rig.fine("hour " + h, x, x.place(0, 1, h, false), wants[h]);
        }
        Rig.fine("24 and a little", x, x.place(0, 2, 1, false), 0);
        // 24 h by 9,998 comes to one at 416.6 again
        Rig.fine("just not one more", x, x.place(0, 2, 416, false), 0);
        Rig.fine("just one more", x, x.place(0, 2, 417, false), 1);
    }

    private static void turnedRoundedDown() {
        Rig.says("TURNED: AT, and the HOUR times all driving teeth by all driven ones, rounded down");
        TideDiscs x = Rig.with("wave a turns 1 in 1 train 5 200; wave b turns 1 in 1 train 7 5 6 5 at 3; wave c turns 1 in 1 train 5 200 5 200;");
        Rig.fine("just not one", x, x.place(0, 0, 39, true), 0);
        Rig.fine("just one", x, x.place(0, 0, 40, true), 1);
        // 42 h by 25, rounded once: 5.04 at 3, 20.16 at 12
        Rig.fine("hour 0", x, x.place(0, 1, 0, true), 3);
        Rig.fine("hour 1", x, x.place(0, 1, 1, true), 4);
        Rig.fine("hour 3", x, x.place(0, 1, 3, true), 8);
        Rig.fine("hour 12", x, x.place(0, 1, 12, true), 23);
        Rig.fine("hour 13", x, x.place(0, 1, 13, true), 0);
        Rig.fine("just not one", x, x.place(0, 2, 1599, true), 0);
        Rig.fine("just one", x, x.place(0, 2, 1600, true), 1);
    }

    private static void turnedWithoutATrain() {
        Rig.says("(without a TRAIN: TRUE)");
        TideDiscs x = Rig.with("wave a turns 5 in 7 at 3; wave b turns 5 in 7 at 3 train 5 5;");
        for (int h : new int[] {0, 1, 2, 50, 99999}) {
            Rig.fine("alike", x, x.place(0, 0, h, true), x.place(0, 0, h, false));
            Rig.fine("by its train", x, x.place(0, 1, h, true), (3 + h) % 24);
        }
    }

    private static void farPlaces() {
        Rig.says("A WAVE's PLACE in an HOUR (0 to 99,999)");
        TideDiscs x = Rig.with("wave a turns 9999 in 1 at 7 train 200 5 200 5; wave b turns 9999 in 9998 at 23 train 199 197 193 191;"
            + "wave c turns 1 in 9999 train 5 200 6 199;");
        int[][] waves = {{9999, 1, 7, 40000, 25}, {9999, 9998, 23, 199 * 193, 197 * 191}, {1, 9999, 0, 30, 39800}};
        for (int w = 0; w < 3; w++) {
            for (int h : new int[] {0, 1, 50000, 99998, 99999}) {
                int[] d = waves[w];
                BigInteger hour = BigInteger.valueOf(h);
                BigInteger gone = hour.multiply(BigInteger.valueOf(24L * d[0])).divide(BigInteger.valueOf(d[1]));
                BigInteger turned = hour.multiply(BigInteger.valueOf(d[3])).divide(BigInteger.valueOf(d[4]));
                Rig.fine("wave " + w + " hour " + h, x, x.place(0, w, h, false), left(gone, d[2]));
                Rig.fine("wave " + w + " hour " + h + " turned", x, x.place(0, w, h, true), left(turned, d[2]));
            }
        }
    }

    private static int left(BigInteger gone, int at) {
        return gone.add(BigInteger.valueOf(at)).mod(BigInteger.valueOf(24)).intValueExact();
    }

    private static void placeRefused() {
        Rig.says("PLACE of a WAVE in an HOUR (2; 5).");
        for (int h : new int[] {-1, 100000, LEAST, MOST}) {
            Furnished.none(5, "hour " + h, x -> x.place(0, 0, h, false));
            Furnished.none(5, "hour " + h, x -> x.place(1, 1, h, true));
            Furnished.none(2, "no wave ahead of hour " + h, x -> x.place(0, 3, h, true));
            Furnished.none(2, "no machine ahead of hour " + h, x -> x.place(2, 0, h, true));
        }
        for (int w : new int[] {-1, 3, LEAST, MOST}) {
            Furnished.none(2, "wave " + w, x -> x.place(0, w, 0, false));
        }
        Furnished.none(2, "wave 2 of machine 1", x -> x.place(1, 2, 0, false));
        for (int m : new int[] {-1, 2, LEAST, MOST}) {
            Furnished.none(2, "machine " + m, x -> x.place(m, 0, 0, false));
        }
    }

    // ---- HEIGHTS

    private static void heightsSummed() {
        Rig.says("HEIGHT, TRUE or TURNED: of all WAVES SIZE times COS of its PLACE, and 12 times ZERO.");
        StringBuilder six = new StringBuilder();
        for (int i = 0; i < 6; i++) {
            six.append("wave ").append((char) ('a' + i)).append(" turns 1 in 24 size 99;");
        }
        TideDiscs x = Rig.with(six + "zero 99;");
        Rig.fine("greatest", x, x.height(0, 0, true), 6 * 99 * 12 + 12 * 99);
        Rig.fine("least", x, x.height(0, 12, false), -6 * 99 * 12 + 12 * 99);
        Rig.fine("all at 0", x, x.height(0, 6, false), 12 * 99);
        for (int i = 0; i < 6; i++) {
            x.set(0, i, 0, 0);
        }
        Rig.fine("without any size", x, x.height(0, 12, false), 12 * 99);
        x.machine(0, 0);
        Rig.fine("without any wave", x, x.height(0, 12, false), 0);
        Rig.says("HEIGHT; STATUS tells NONE from -1 (2; 5).");
        x = Rig.with("wave a turns 1 in 24 size 3 at 7; wave b turns 1 in 24 size 1 at 3;");
        Rig.fine("-1", x, x.height(0, 0, false), -1);
        Rig.fine("-1 turned", x, x.height(0, 0, true), -1);
        Rig.refused("NONE", x, x.height(0, -1, true), 5);
    }

    private static void heightRefused() {
        TideDiscs y = Rig.with("wave a turns 1 in 24 size 1;");
        Rig.fine("the first hour", y, y.height(0, 0, false), 12);
        Rig.fine("the last hour", y, y.height(0, 99999, true), COS[15]);
        for (int h : new int[] {-1, 100000, LEAST, MOST}) {
            Furnished.none(5, "hour " + h, x -> x.height(0, h, false));
            Furnished.none(5, "hour " + h, x -> x.height(1, h, true));
            Furnished.none(2, "no machine ahead of hour " + h, x -> x.height(2, h, true));
        }
        for (int m : new int[] {-1, 2, LEAST, MOST}) {
            Furnished.none(2, "machine " + m, x -> x.height(m, 0, false));
        }
    }

    // ---- the POINTER

    /** HEIGHTS 12 12 10 8 6 3 0 .. by the HOUR. */
    private static TideDiscs slackOf(int slack) {
        return Rig.with("wave a turns 1 in 12 size 1 train 9 9; slack " + slack + ";");
    }

    private static void pointerBySlack() {
        Rig.says("is that more than SLACK above it, it goes to SLACK below that; more than SLACK below it, to SLACK above that; else it stays.");
        TideDiscs x = slackOf(3);
        // from 10 (HOUR 2): 8, 6 (4 below: to 9), 3 (6 below: to 6)
        Rig.fine("two below: stays", x, x.pointer(0, 2, 3), 10);
        Rig.fine("four below", x, x.pointer(0, 2, 4), 9);
        Rig.fine("six below", x, x.pointer(0, 2, 5), 6);
        // from 6 (HOUR 4): 3 is just SLACK below
        Rig.fine("just slack below: stays", x, x.pointer(0, 4, 5), 6);
        Rig.fine("more than slack below", x, x.pointer(0, 4, 6), 3);
        // from -6 (HOUR 16): -3 is just SLACK above, 0 is more
        Rig.fine("just slack above: stays", x, x.pointer(0, 16, 17), -6);
        Rig.fine("more than slack above", x, x.pointer(0, 16, 18), -3);
        Rig.fine("on", x, x.pointer(0, 16, 19), 0);
        x = slackOf(0);
        for (int h = 0; h < 24; h++) {
            Rig.fine("without slack it tells the height", x, x.pointer(0, 0, h), COS[h]);
        }
        x = slackOf(24);
        Rig.fine("never more than 24", x, x.pointer(0, 0, 23), 12);
        Rig.fine("nor the other way", x, x.pointer(0, 12, 24), -12);
        x = slackOf(23);
        Rig.fine("24 is more than 23", x, x.pointer(0, 0, 11), 11);
        Rig.fine("and stays", x, x.pointer(0, 0, 24), 11);
        Rig.fine("24 is more than 23, above", x, x.pointer(0, 12, 23), -11);
        x = Rig.with("wave a turns 1 in 24 size 9; slack 99;");
        // 108 to -108
        Rig.fine("the greatest slack", x, x.pointer(0, 0, 6), 99);
        Rig.fine("to the end", x, x.pointer(0, 0, 11), -108 + 99);
        Rig.fine("and back", x, x.pointer(0, 0, 23), 108 - 99);
        Rig.says("The POINTER in an HOUR, as it goes from another one on, at most 2,000 ahead; STATUS tells NONE from -1 (2; 5).");
        x = Rig.with("wave a turns 1 in 24 size 1; slack 11;");
        // 12 down to -12: the POINTER goes to -1
        Rig.fine("-1", x, x.pointer(0, 0, 11), -1);
    }

    private static void pointerFromAnHour() {
        Rig.says("The POINTER goes from one HOUR on: it tells the HEIGHT TURNED there; then HOUR by HOUR");
        TideDiscs x = slackOf(5);
        for (int h = 0; h < 24; h++) {
            Rig.fine("at once", x, x.pointer(0, h, h), COS[h]);
        }
        // HEIGHTS of 5 on: 3 0 -3 -6: 3 stays to -2, then goes to -1 at -6
        Rig.fine("one hour on", x, x.pointer(0, 5, 6), 3);
        Rig.fine("two hours on", x, x.pointer(0, 5, 7), 2);
        Rig.fine("three hours on", x, x.pointer(0, 5, 8), -1);
        // the HOUR ahead of it is of no matter: HOUR 18 has 0, HOUR 19 3, HOUR 20 6
        x = slackOf(0);
        Rig.fine("from 19", x, x.pointer(0, 19, 19), 3);
        x = slackOf(2);
        Rig.fine("from 19", x, x.pointer(0, 19, 20), 4);
        Rig.fine("from 18", x, x.pointer(0, 18, 19), 1);
        Rig.fine("from 18", x, x.pointer(0, 18, 20), 4);
        // -12 for three HOURS, and one lower step between would be seen
        x = Rig.with("wave a turns 1 in 24 size 1 at 9; slack 1;");
        Rig.fine("-8", x, x.pointer(0, 0, 0), -8);
        Rig.fine("-10: to -9", x, x.pointer(0, 0, 1), -9);
        Rig.fine("-12: to -11", x, x.pointer(0, 0, 2), -11);
        Rig.fine("-12: stays", x, x.pointer(0, 0, 4), -11);
        Rig.fine("-10: stays", x, x.pointer(0, 0, 5), -11);
        Rig.fine("-8: to -9", x, x.pointer(0, 0, 6), -9);
    }

    private static void pointerFarthest() {
        TideDiscs x = slackOf(5);
        // every turn ends as the one ahead: from HOUR 24 on the POINTER only knows the turn
        Rig.fine("2000 ahead", x, x.pointer(0, 0, 2000), x.pointer(0, 0, 2000 % 24 + 24));
        Rig.fine("2000 ahead", x, x.pointer(0, 97999, 99999), x.pointer(0, 97999 % 24, 97999 % 24 + 2000));
        Rig.refused("2001 ahead", x, x.pointer(0, 0, 2001), 5);
        Rig.refused("2001 ahead", x, x.pointer(0, 97998, 99999), 5);
    }

    private static void pointerRefused() {
        int[][] spans = {{-1, 0}, {0, -1}, {-1, -1}, {1, 0}, {99999, 99998}, {99999, 100000}, {100000, 100000}, {100000, 0},
            {0, 2001}, {97998, 99999}, {0, MOST}, {LEAST, 0}, {LEAST, MOST}, {MOST, LEAST}};
        for (int[] s : spans) {
            Furnished.none(5, "from " + s[0] + " to " + s[1], x -> x.pointer(0, s[0], s[1]));
            Furnished.none(2, "no machine ahead of " + s[0] + " to " + s[1], x -> x.pointer(2, s[0], s[1]));
        }
        for (int m : new int[] {-1, 2, LEAST, MOST}) {
            Furnished.none(2, "machine " + m, x -> x.pointer(m, 0, 0));
        }
        TideDiscs y = Furnished.make();
        Rig.fine("the first hour", y, y.pointer(0, 0, 0), y.height(0, 0, true));
        Rig.fine("the last hour", y, y.pointer(0, 99999, 99999), y.height(0, 99999, true));
    }

    // ---- OFF

    private static void offByHours() {
        Rig.says("OFF by so many HOURS (0 to 99,999) a TRAIN is by what TRUE and TURNED come to without rounding and AT");
        TideDiscs x = Rig.with("wave a turns 1 in 24 at 23 train 10 30; wave b turns 9999 in 1 train 5 200 5 200;"
            + "wave c turns 1 in 9999 train 200 5 200 5;");
        Rig.fine("no hours", x, x.off(0, 0, 0));
        Rig.fraction("no hours", x, 0, 1);
        Rig.fine("one hour", x, x.off(0, 0, 1));
        Rig.fraction("two thirds", x, 2, 3);
        Rig.fine("the most hours", x, x.off(0, 0, 99999));
        Rig.fraction("66,666", x, 66666, 1);
        // 239,976 less 1 by 1,600
        Rig.fine("far behind", x, x.off(0, 1, 99999));
        Rig.fraction("far behind", x, (239976L * 1600 - 1) * 99999, 1600);
        // 1,600 less 24 by 9,999 (8 by 3,333), 99,999 HOURS (33,333 x 3): 3,333 = 3 x 11 x 101, 99,999 = 9 x 41 x 271
        Rig.fine("far ahead", x, x.off(0, 2, 99999));
        Rig.fraction("far ahead", x, (1600L * 3333 - 8) * 33333, 1111);
    }

    private static void offByHowMuch() {
        Rig.says("the size of their difference, in PLACES: a FRACTION.");
        TideDiscs x = Rig.with("wave a turns 1 in 24 at 5 train 10 9; wave b turns 1 in 24 at 6 train 9 10; wave c turns 1 in 24 train 7 7;"
            + "wave d turns 1 in 24 train 14 7 5 10; wave e turns 9999 in 9998 train 120 5;");
        Rig.fine("ahead", x, x.off(0, 0, 24));
        Rig.fraction("ahead", x, 8, 3);
        Rig.fine("behind", x, x.off(0, 1, 24));
        Rig.fraction("behind", x, 12, 5);
        Rig.fine("it fits", x, x.off(0, 2, 99999));
        Rig.fraction("it fits", x, 0, 1);
        Rig.fine("two couples fit", x, x.off(0, 3, 99999));
        Rig.fraction("two couples fit", x, 0, 1);
        // 24 x 9,999 by 9,998 less 24: 24 by 9,998, 12 by 4,999
        Rig.fine("nearly", x, x.off(0, 4, 1));
        Rig.fraction("nearly", x, 12, 4999);
        x.set(0, 0, 99, 0);
        Rig.fine("AT and SIZE are no matter", x, x.off(0, 0, 24));
        Rig.fraction("ahead", x, 8, 3);
    }

    private static void offRefused() {
        Rig.says("The FRACTION is how far a TRAIN is OFF (2; 5; 8: it has none).");
        for (int h : new int[] {-1, 100000, LEAST, MOST}) {
            Furnished.no(5, "hours " + h, x -> x.off(0, 0, h));
            Furnished.no(5, "hours " + h + " ahead of 8", x -> x.off(0, 2, h));
            Furnished.no(2, "2 ahead of hours " + h, x -> x.off(0, 3, h));
        }
        for (int w : new int[] {-1, 3, LEAST, MOST}) {
            Furnished.no(2, "wave " + w, x -> x.off(0, w, 1));
        }
        for (int m : new int[] {-1, 2, LEAST, MOST}) {
            Furnished.no(2, "machine " + m, x -> x.off(m, 0, 1));
        }
        Furnished.no(8, "no train", x -> x.off(0, 2, 0));
        Furnished.no(8, "no train", x -> x.off(0, 2, 99999));
    }
}
