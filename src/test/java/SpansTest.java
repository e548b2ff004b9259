/** Promises 31 to 37: spans, BOUNDS, LANDING, SPREAD, both MACHINES COMPARED. */
public final class SpansTest {
    private static final int NONE = TideDiscs.NONE;

    public static void main(String[] args) {
        extreme();
        bounds();
        ask();
        landing();
        landingRefused();
        spread();
        spreadTies();
        spreadTold();
        compare();
        Rig.end();
    }

    private static void extreme() {
        Rig.promise(31);
        // HEIGHT TRUE is COS of the HOUR, TURNED goes half as fast
        TideDiscs x = Rig.with("wave a turns 1 in 24 size 1 train 5 10; zero 1;");
        Rig.fine("highest", x, x.extreme(0, 0, 23, false, true), 0);
        Rig.fine("least, the first of three", x, x.extreme(0, 0, 23, false, false), 11);
        Rig.fine("highest of two", x, x.extreme(0, 2, 22, false, true), 2);
        Rig.fine("least turned", x, x.extreme(0, 12, 60, true, false), 22);
        Rig.fine("highest turned", x, x.extreme(0, 12, 60, true, true), 46);
        Rig.fine("one hour", x, x.extreme(0, 5, 5, false, true), 5);
        Rig.fine("the last of them", x, x.extreme(0, 3, 11, false, false), 11);
        Rig.fine("2000 hours", x, x.extreme(0, 12, 2011, false, true), 23);
        Rig.fine("the last ones", x, x.extreme(0, 98000, 99999, false, true), 98015);
        Rig.refused("2001 hours", x, x.extreme(0, 12, 2012, false, true), 5);
        Rig.refused("from behind to", x, x.extreme(0, 5, 4, false, true), 5);
        Rig.refused("below 0", x, x.extreme(0, -1, 4, false, true), 5);
        Rig.refused("above the last", x, x.extreme(0, 99999, 100000, false, true), 5);
        Rig.refused("far apart", x, x.extreme(0, Integer.MIN_VALUE, Integer.MAX_VALUE, false, true), 5);
        Rig.refused("no machine", x, x.extreme(2, 5, 4, false, true), 2);
    }

    private static void bounds() {
        Rig.promise(32);
        TideDiscs x = Rig.with("wave a turns 1 in 24 size 2 train 5 5 5 200; wave b turns 1 in 24 size 1 at 12; zero 1;");
        Rig.fine("without any e", x, x.bounds(0, 0, 0, 0), 24);
        Rig.fine("without any e", x, x.bounds(0, 0, 0, 1), 24);
        // PLACES 19 to 5 have COS 3 to 12, PLACES 7 to 17 -12 to -3
        Rig.fine("least", x, x.bounds(0, 0, 5, 0), 6);
        Rig.fine("greatest", x, x.bounds(0, 0, 5, 1), 33);
        // HOUR 4: PLACES 3 to 5 and 15 to 17
        Rig.fine("least", x, x.bounds(0, 4, 1, 0), 2 * 3 - 8 + 12);
        Rig.fine("greatest", x, x.bounds(0, 4, 1, 1), 2 * 8 - 3 + 12);
        Rig.refused("e", x, x.bounds(0, 4, 6, 1), 5);
        Rig.refused("e", x, x.bounds(0, 4, -1, 1), 5);
        Rig.refused("what", x, x.bounds(0, 4, 1, 2), 5);
        Rig.refused("what", x, x.bounds(0, 4, 1, -1), 5);
        Rig.refused("hour", x, x.bounds(0, 100000, 1, 1), 5);
        Rig.refused("hour", x, x.bounds(0, -1, 1, 1), 5);
        Rig.refused("no machine", x, x.bounds(2, 4, 6, 1), 2);
        x = Rig.with("wave a turns 1 in 24 size 1 at 6;");
        Rig.fine("-3 twice", x, x.bounds(0, 0, 1, 0), -3);
    }

    private static void ask() {
        Rig.promise(33);
        TideDiscs x = Rig.with("wave a turns 1 in 24 size 1;");
        // as it is asked at first, HEIGHT 0 alone will do: HOUR 6
        Rig.fine("at first", x, x.landing(0, 0, 23), 6);
        Rig.fine("all edges", x, x.ask(-99999, 99999, 5, true, Integer.MAX_VALUE, 12, 23, 0));
        Rig.refused("so it is asked now", x, x.landing(0, 0, 23), 2);
        Rig.fine("ask", x, x.ask(3, 3, 0, false, NONE, 0, 0, 23));
        Rig.refused("least", x, x.ask(-100000, 0, 0, false, NONE, 0, 0, 23), 5);
        Rig.refused("most", x, x.ask(0, 100000, 0, false, NONE, 0, 0, 23), 5);
        Rig.refused("most below", x, x.ask(1, 0, 0, false, NONE, 0, 0, 23), 5);
        Rig.refused("e", x, x.ask(0, 0, 6, false, NONE, 0, 0, 23), 5);
        Rig.refused("e", x, x.ask(0, 0, -1, false, NONE, 0, 0, 23), 5);
        Rig.refused("places", x, x.ask(0, 0, 0, false, NONE, 13, 0, 23), 5);
        Rig.refused("places", x, x.ask(0, 0, 0, false, NONE, -1, 0, 23), 5);
        Rig.refused("from", x, x.ask(0, 0, 0, false, NONE, 0, 24, 23), 5);
        Rig.refused("from", x, x.ask(0, 0, 0, false, NONE, 0, -1, 23), 5);
        Rig.refused("to", x, x.ask(0, 0, 0, false, NONE, 0, 0, 24), 5);
        Rig.refused("to", x, x.ask(0, 0, 0, false, NONE, 0, 0, -1), 5);
        Rig.refused("a moon below NONE", x, x.ask(1, 0, 9, false, -2, 99, 99, 99), 2);
        Rig.fine("what was refused is not asked", x, x.landing(0, 0, 23), 5);
    }

    private static void landing() {
        Rig.promise(34);
        TideDiscs x = Rig.with("wave a turns 1 in 24 size 1 train 5 200; wave m turns 1 in 48;");
        x.ask(3, 8, 0, false, NONE, 0, 0, 23);
        Rig.fine("from 3 to 8", x, x.landing(0, 0, 23), 3);
        Rig.fine("from 6 on", x, x.landing(0, 6, 23), 19);
        x.ask(3, 8, 0, true, NONE, 0, 0, 23);
        Rig.fine("rising", x, x.landing(0, 0, 23), 19);
        x.ask(12, 12, 0, true, NONE, 0, 0, 23);
        Rig.refused("highest does not rise", x, x.landing(0, 0, 1999), 8);
        // PLACES one off either way: HOUR 4 has 3 to 8
        x.ask(3, 8, 1, false, NONE, 0, 0, 23);
        Rig.fine("with bounds", x, x.landing(0, 0, 23), 4);
        x.ask(3, 7, 1, false, NONE, 0, 0, 23);
        Rig.refused("too high a bound", x, x.landing(0, 0, 23), 8);
        x.ask(4, 8, 1, false, NONE, 0, 0, 23);
        Rig.refused("too low a bound", x, x.landing(0, 0, 23), 8);
        // the moon's PLACE is half the HOUR: 12 at HOURS 24 and 25
        x.ask(-12, 12, 0, false, 1, 0, 0, 23);
        Rig.fine("full moon", x, x.landing(0, 0, 100), 24);
        Rig.fine("full moon", x, x.landing(0, 26, 100), 72);
        x.ask(-12, 12, 0, false, 1, 3, 0, 23);
        Rig.fine("three ahead", x, x.landing(0, 0, 100), 18);
        Rig.fine("three behind", x, x.landing(0, 31, 100), 31);
        Rig.fine("no more", x, x.landing(0, 32, 100), 66);
        x.ask(-12, 12, 0, false, 1, 12, 0, 23);
        Rig.fine("any moon", x, x.landing(0, 0, 100), 0);
        x.ask(-12, 12, 0, false, 1, 11, 0, 23);
        Rig.fine("any but the new one", x, x.landing(0, 0, 100), 2);
        x.ask(-12, 12, 0, false, NONE, 0, 5, 7);
        Rig.fine("in time", x, x.landing(0, 0, 100), 5);
        Rig.fine("in time", x, x.landing(0, 7, 100), 7);
        Rig.fine("in time", x, x.landing(0, 8, 100), 29);
        x.ask(-12, 12, 0, false, NONE, 0, 22, 1);
        Rig.fine("over midnight", x, x.landing(0, 1, 100), 1);
        Rig.fine("over midnight", x, x.landing(0, 2, 100), 22);
        Rig.refused("not in that span", x, x.landing(0, 2, 21), 8);
        x.ask(-12, 12, 0, false, NONE, 0, 7, 7);
        Rig.fine("one hour of the day", x, x.landing(0, 0, 100), 7);
        Rig.fine("one hour of the day", x, x.landing(0, 8, 31), 31);
        x.ask(-12, 12, 0, false, 0, 0, 0, 23);
        Rig.fine("the PLACE is TRUE", x, x.landing(0, 0, 100), 12);
        x.ask(0, 99, 0, true, 1, 4, 20, 23);
        // rising and not below 0: PLACES 18 to 22; the moon from HOUR 64 to 81: HOUR 68 is 20 o'clock
        Rig.fine("all at once", x, x.landing(0, 24, 100), 68);
        x.ask(-12, 12, 0, true, NONE, 0, 0, 23);
        // HOUR 99,999 has PLACE 15, the next one 16
        Rig.fine("behind the last hour", x, x.landing(0, 99999, 99999), 99999);
    }

    private static void landingRefused() {
        TideDiscs x = Rig.with("wave a turns 1 in 24 size 1;");
        Rig.refused("2001 hours", x, x.landing(0, 0, 2000), 5);
        Rig.refused("from behind to", x, x.landing(0, 1, 0), 5);
        Rig.refused("below 0", x, x.landing(0, -1, 0), 5);
        Rig.refused("above the last", x, x.landing(0, 99999, 100000), 5);
        Rig.refused("no machine", x, x.landing(2, 1, 0), 2);
        x.ask(-12, 12, 0, false, 0, 12, 0, 23);
        Rig.fine("a moon", x, x.landing(0, 0, 5), 0);
        Rig.refused("that machine has no moon", x, x.landing(1, 1, 0), 2);
    }

    private static void spread() {
        Rig.promise(35);
        String waves = "wave a turns 1 in 24 size 10; wave b turns 1 in 12 size 7 at 3; wave c turns 1 in 24 size 5;";
        TideDiscs x = Rig.with(waves);
        Rig.fine("over one alike", x, x.spread(0, 0, 0, 23), 2);
        Rig.promise(36);
        Rig.fine("size", x, x.spreadTold(0), 15);
        Rig.fine("at", x, x.spreadTold(1), 0);
        Rig.fine("sum", x, x.spreadTold(2), 0);
        Rig.promise(35);
        Rig.fine("nothing is set", x, x.wave(0, 0, 2), 10);
        Rig.fine("nothing is set", x, x.wave(0, 2, 2), 5);
        x.set(0, 2, 95, 0);
        Rig.fine("not above 99", x, x.spread(0, 0, 0, 23), 2);
        Rig.promise(36);
        Rig.fine("size", x, x.spreadTold(0), 99);
        // six too few, and all COS come to 180
        Rig.fine("sum", x, x.spreadTold(2), 1080);
        Rig.promise(35);
        x.set(0, 0, 0, 0);
        Rig.fine("a broken one without size", x, x.spread(0, 0, 0, 23), NONE);
        Rig.promise(36);
        Rig.refused("no size", x, x.spreadTold(0), 8);
        Rig.refused("no at", x, x.spreadTold(1), 8);
        Rig.fine("sum", x, x.spreadTold(2), 0);
        Rig.promise(35);
        Rig.machine(x, 0, "wave a turns 1 in 24 size 10;");
        Rig.fine("no other", x, x.spread(0, 0, 0, 47), NONE);
        Rig.promise(36);
        Rig.fine("sum", x, x.spreadTold(2), 3600);
        Rig.promise(35);
        Rig.refused("49 hours", x, x.spread(0, 0, 0, 48), 5);
        Rig.refused("from behind to", x, x.spread(0, 0, 1, 0), 5);
        Rig.refused("below 0", x, x.spread(0, 0, -1, 0), 5);
        Rig.refused("above the last", x, x.spread(0, 0, 99999, 100000), 5);
        Rig.refused("no wave", x, x.spread(0, 1, 1, 0), 2);
        Rig.refused("no wave", x, x.spread(0, -1, 0, 0), 2);
        Rig.refused("no machine", x, x.spread(2, 0, 0, 0), 2);
        Rig.promise(36);
        Rig.fine("it stays", x, x.spreadTold(2), 3600);
    }

    private static void spreadTies() {
        Rig.promise(35);
        TideDiscs x = Rig.with("wave a turns 1 in 24 size 4; wave b turns 1 in 24; wave c turns 1 in 24 at 7;");
        Rig.fine("the lesser wave of two", x, x.spread(0, 0, 0, 23), 1);
        Rig.fine("size", x, x.spreadTold(0), 4);
        // HOUR 0 alone: 48 wanted; the least SIZE is 4, at PLACES 23, 0, 1: 0 is the least AT
        Rig.machine(x, 0, "wave a turns 1 in 24 size 4; wave b turns 1 in 24 at 9;");
        // TRUE they go alike, whatever their TRAINS
        Rig.machine(x, 1, "wave a turns 1 in 24 size 4 train 5 200; wave b turns 1 in 24 size 2 train 200 5;");
        Rig.fine("TRUE", x, x.spread(1, 0, 5, 28), 1);
        Rig.fine("size", x, x.spreadTold(0), 6);
        Rig.fine("sum", x, x.spreadTold(2), 0);
        Rig.fine("one hour", x, x.spread(0, 0, 0, 0), 1);
        Rig.fine("size", x, x.spreadTold(0), 4);
        Rig.fine("at", x, x.spreadTold(1), 0);
        // HOUR 1: PLACE 1 has COS 12, so AT 0, 22, 23 do
        Rig.fine("one hour", x, x.spread(0, 0, 1, 1), 1);
        Rig.fine("at", x, x.spreadTold(1), 0);
        // HOUR 3: 32 wanted; no SIZE of 3 comes to it, 4 x 8 does at PLACES 3, 21: AT 0 and 18
        Rig.fine("one hour", x, x.spread(0, 0, 3, 3), 1);
        Rig.fine("size", x, x.spreadTold(0), 4);
        Rig.fine("at", x, x.spreadTold(1), 0);
        // HOUR 6: 0 is wanted and there: none is set anew
        Rig.fine("none first", x, x.spread(0, 0, 6, 6), NONE);
        Rig.fine("sum", x, x.spreadTold(2), 0);
        // HOUR 4: 24 wanted: SIZE 2 at COS 12, PLACES 23, 0, 1: AT 19, 20, 21
        Rig.fine("one hour", x, x.spread(0, 0, 4, 4), 1);
        Rig.fine("the lesser size", x, x.spreadTold(0), 2);
        Rig.fine("the lesser at", x, x.spreadTold(1), 19);
    }

    private static void spreadTold() {
        Rig.promise(36);
        TideDiscs x = new TideDiscs();
        Rig.refused("ahead of any", x, x.spreadTold(0), 8);
        Rig.refused("ahead of any", x, x.spreadTold(1), 8);
        Rig.refused("ahead of any", x, x.spreadTold(2), 8);
        Rig.refused("what", x, x.spreadTold(3), 5);
        Rig.refused("what", x, x.spreadTold(-1), 5);
    }

    private static void compare() {
        Rig.promise(37);
        TideDiscs x = Rig.with("wave a turns 1 in 24 size 10;");
        Rig.fine("machine 1", x, Rig.machine(x, 1, "wave a turns 1 in 24 size 9;"), 1);
        // they differ by COS of the HOUR
        Rig.fine("at once", x, x.compare(0, 9, 11), 0);
        Rig.fine("by more than 9", x, x.compare(2, 9, 9), 2);
        Rig.fine("by more than 10", x, x.compare(2, 9, 10), NONE);
        Rig.fine("the other way", x, x.compare(2, 23, 10), 11);
        Rig.fine("the last of them", x, x.compare(2, 11, 10), 11);
        Rig.fine("not by more than 12", x, x.compare(0, 1999, 12), NONE);
        Rig.fine("much", x, x.compare(98000, 99999, 99999), NONE);
        Rig.fine("turned", x, Rig.machine(x, 1, "wave a turns 1 in 24 size 10 train 5 10;"), 1);
        Rig.fine("turned", x, x.compare(0, 9, 0), 2);
        Rig.machine(x, 0, "wave a turns 1 in 48 size 10 train 5 5;");
        Rig.fine("both turned", x, x.compare(0, 9, 0), 2);
        Rig.refused("2001 hours", x, x.compare(0, 2000, 0), 5);
        Rig.refused("from behind to", x, x.compare(1, 0, 0), 5);
        Rig.refused("below 0", x, x.compare(-1, 0, 0), 5);
        Rig.refused("above the last", x, x.compare(99999, 100000, 0), 5);
        Rig.refused("the number", x, x.compare(0, 9, -1), 5);
        Rig.refused("the number", x, x.compare(0, 9, 100000), 5);
    }
}
