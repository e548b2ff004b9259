import java.util.function.ToLongFunction;

/** The edges of promises 1 to 8: a new object, STATUS, the FRACTION, TRAYS. */
public final class TrayEdgesTest {
    private static final int NONE = TideDiscs.NONE;
    private static final int LEAST = Integer.MIN_VALUE;
    private static final int MOST = Integer.MAX_VALUE;

    public static void main(String[] args) {
        newTrays();
        newMachines();
        newOrders();
        newTape();
        newStatus();
        nothingToldYet();
        objectsApart();
        statusOfTheLatest();
        statusOfACallThatIsTaken();
        callsThatTellAlone();
        fraction();
        trayNumbers();
        traySorts();
        trayLengths();
        trayAnew();
        cutToSort();
        writePlaces();
        readPlaces();
        readNone();
        pourPlaces();
        pourTheSame();
        pourSorts();
        pourOrder();
        Rig.end();
    }

    // ---- promise 1

    private static void newTrays() {
        Rig.says("TRAYS are MISSING, MACHINES without any PART, no ORDERS, an empty tape; STATUS 0, the FRACTION 0 by 1.");
        for (int t = 0; t < 5; t++) {
            TideDiscs x = new TideDiscs();
            Rig.refused("read", x, x.read(t, 0), 3);
            Rig.refused("write", x, x.write(t, 0, 1), 3);
            Rig.refused("pour", x, x.pour(t, 0, t, 0, 0), 3);
            Rig.refused("table", x, x.table(0, t, 0, 1), 3);
            Rig.refused("slipped", x, x.slipped(0, t, t, 1, 0), 3);
            Rig.refused("neighbour", x, x.neighbour(0, t, t, 1), 3);
            Rig.refused("led", x, x.led(1, t, t, 1), 3);
        }
    }

    private static void newMachines() {
        TideDiscs x = new TideDiscs();
        for (int m = 0; m < 2; m++) {
            for (int what = 0; what < 4; what++) {
                Rig.fine("told", x, x.told(m, what), 0);
            }
            Rig.refused("no wave", x, x.wave(m, 0, 0), 2);
            Rig.refused("no wave to set", x, x.set(m, 0, 0, 0), 2);
            Rig.refused("no place", x, x.place(m, 0, 0, false), 2);
            Rig.refused("no train", x, x.train(m, 0, 1), 2);
            Rig.refused("no wave to share", x, x.share(m, 1, 0, 0), 2);
            Rig.refused("nobody to share", x, x.share(m, 0, 0, 0), 5);
            Rig.fine("height", x, x.height(m, 0, false), 0);
            Rig.fine("height turned", x, x.height(m, 99999, true), 0);
            Rig.fine("pointer", x, x.pointer(m, 0, 2000), 0);
            Rig.fine("bounds", x, x.bounds(m, 0, 5, 1), 0);
            Rig.fine("extreme", x, x.extreme(m, 7, 2006, true, true), 7);
            Rig.fine("range", x, x.range(m, 0, false), 0);
            Rig.fine("waters", x, x.waters(m, 4166, true, true), 0);
            Rig.refused("nothing wears", x, x.lasts(m, 1), 8);
        }
        Rig.fine("both alike", x, x.compare(0, 1999, 0), NONE);
        Rig.fine("nothing to trade", x, x.trade(99999), 0);
        Rig.refused("none traded", x, x.traded(0), 8);
    }

    private static void newOrders() {
        TideDiscs x = new TideDiscs();
        Rig.fine("obey", x, x.obey(0, 99999), 99999);
        for (int what = 0; what < 4; what++) {
            Rig.fine("obeyed", x, x.obeyed(what), 0);
        }
        Rig.refused("marked", x, x.marked(0), 8);
    }

    private static void newTape() {
        TideDiscs x = new TideDiscs();
        Rig.refused("machine of a byte", x, x.machine(0, 1), 5);
        Rig.refused("orders of a byte", x, x.orders(1), 5);
        Rig.fine("machine of none", x, x.machine(1, 0), 0);
        Rig.fine("orders of none", x, x.orders(0), 0);
        Rig.due("the first twenty", x.feed(0, 0, 0, 0, 0), 20);
    }

    private static void newStatus() {
        TideDiscs x = new TideDiscs();
        Rig.due("status", x.status(), 0);
        Rig.due("top", x.top(), 0);
        Rig.due("bottom", x.bottom(), 1);
        Rig.due("fault", x.fault(0), NONE);
        Rig.due("its place", x.fault(1), NONE);
        Rig.due("NONE", NONE, -1);
    }

    private static void nothingToldYet() {
        Rig.says("8 there is none.");
        TideDiscs x = new TideDiscs();
        Rig.refused("trained", x, x.trained(0), 8);
        Rig.refused("shared", x, x.shared(0), 8);
        Rig.refused("slip", x, x.slip(), 8);
        Rig.refused("lag", x, x.lag(), 8);
        Rig.refused("wheel", x, x.wheel(0), 8);
        Rig.refused("more or less", x, x.wheel(1), 8);
        for (int what = 0; what < 3; what++) {
            Rig.refused("spreadTold", x, x.spreadTold(what), 8);
        }
        for (int what = 0; what < 4; what++) {
            Rig.refused("traded", x, x.traded(what), 8);
            Rig.refused("obeyed", x, x.obeyed(what), 8);
        }
        Rig.refused("marked", x, x.marked(0), 8);
        Rig.refused("water", x, x.water(0, 0, true, false, 0), 8);
        Rig.refused("gap", x, x.gap(0, 0, false, 0), 8);
    }

    private static void objectsApart() {
        Rig.says("Nothing is promised beyond the answers and state changes described above");
        TideDiscs x = Furnished.make();
        TideDiscs y = new TideDiscs();
        Rig.due("status", y.status(), 0);
        Rig.fraction("of another object", y, 0, 1);
        Rig.refused("tray", y, y.read(0, 0), 3);
        Rig.fine("waves", y, y.told(0, 0), 0);
        Rig.due("tape", y.feed(0, 0, 0, 0, 0), 20);
        Rig.refused("trained", y, y.trained(0), 8);
        Rig.due("tape of the first", x.feed(0, 0, 0, 0, 0), 40);
        Rig.fine("waves of the first", x, x.told(0, 0), 3);
    }

    // ---- promises 2 to 4

    private static void statusOfTheLatest() {
        Rig.says("The STATUS of the latest call that has one.");
        TideDiscs x = new TideDiscs();
        x.tray(5, 0, 0);
        Rig.due("refused", x.status(), 1);
        Rig.due("asked again", x.status(), 1);
        Rig.says("status(), fault(), feed(), top(), bottom() have none.");
        x.fault(0);
        Rig.due("fault(0)", x.status(), 1);
        x.fault(7);
        Rig.due("fault(7)", x.status(), 1);
        x.top();
        Rig.due("top()", x.status(), 1);
        x.bottom();
        Rig.due("bottom()", x.status(), 1);
        for (int i = 0; i < 30; i++) {
            x.feed(0, 0, 0, 0, 0);
        }
        Rig.due("feed()", x.status(), 1);
        Rig.due("a full tape", x.feed(0, 0, 0, 0, 0), NONE);
        Rig.due("feed() that gives NONE", x.status(), 1);
        Rig.fine("a call that is taken", x, x.tray(4, 0, 0));
        x.feed(0, 0, 0, 0, 0);
        Rig.due("feed() that gives NONE", x.status(), 0);
    }

    private static void taken(String what, ToLongFunction<TideDiscs> call) {
        TideDiscs x = Furnished.make();
        x.told(2, 0);
        Rig.due("refused ahead of " + what, x.status(), 2);
        call.applyAsLong(x);
        Rig.due("status of " + what, x.status(), 0);
    }

    private static long flag(boolean b) {
        return b ? 1 : 0;
    }

    /** Calls that change something; STATUS is 0, whatever it was. */
    private static void statusOfACallThatIsTaken() {
        Rig.says("0 else.");
        int many = Furnished.READINGS;
        taken("tray", x -> flag(x.tray(4, 0, 0)));
        taken("write", x -> flag(x.write(0, 0, 0)));
        taken("pour", x -> flag(x.pour(0, 0, 1, 0, many)));
        taken("pour of none", x -> flag(x.pour(0, 0, 1, 0, 0)));
        taken("machine", x -> x.machine(0, 20));
        taken("machine of none", x -> x.machine(1, 0));
        taken("set", x -> flag(x.set(0, 0, 1, 1)));
        taken("off", x -> flag(x.off(0, 0, 1)));
        taken("train", x -> x.train(0, 0, 1));
        taken("share", x -> x.share(0, 1, 99, 1));
        taken("settings", x -> flag(x.settings(0, 0, 0, 0, 1, many, 0)));
        taken("a clock", x -> x.slipped(0, 0, 1, many, 0));
        taken("a zero", x -> x.slipped(0, 0, 1, many, 1));
        taken("neighbour", x -> x.neighbour(0, 0, 1, many));
        taken("led", x -> x.led(0, 0, 1, many));
        taken("led to none", x -> x.led(0, 0, 0, 1));
        taken("ask", x -> flag(x.ask(0, 0, 0, false, NONE, 0, 0, 0)));
        taken("spread", x -> x.spread(0, 0, 0, 9));
        taken("spread over none", x -> x.spread(0, 0, 5, 5));
        taken("trade", x -> x.trade(1));
        taken("trade by none", x -> x.trade(0));
        taken("orders", x -> x.orders(0));
        taken("obey", x -> x.obey(0, 0));
    }

    private static void callsThatTellAlone() {
        Furnished.tellsAlone("status", x -> x.told(0, 0) + x.status());
        Furnished.tellsAlone("top", x -> x.told(0, 0) + x.top());
        Furnished.tellsAlone("bottom", x -> x.told(0, 0) + x.bottom());
        Furnished.tellsAlone("fault", x -> x.told(0, 0) + x.fault(0) + x.fault(1) + x.fault(2));
        Furnished.tellsAlone("read", x -> x.read(0, 0));
        Furnished.tellsAlone("pour of none", x -> flag(x.pour(0, 0, 1, 0, 0)));
        Furnished.tellsAlone("pour onto itself", x -> flag(x.pour(0, 0, 0, 0, Furnished.READINGS)));
        Furnished.tellsAlone("told", x -> x.told(1, 3));
        Furnished.tellsAlone("wave", x -> x.wave(0, 0, 4));
        Furnished.tellsAlone("place", x -> x.place(0, 0, 9, true));
        Furnished.tellsAlone("height", x -> x.height(0, 9, true));
        Furnished.tellsAlone("pointer", x -> x.pointer(0, 0, 9));
        Furnished.tellsAlone("trained", x -> x.trained(3));
        Furnished.tellsAlone("shared", x -> x.shared(1));
        Furnished.tellsAlone("changed", x -> x.changed(0, 0, 0, 0, 1, 0, 1, Furnished.READINGS, 0));
        Furnished.tellsAlone("slip", x -> x.slip());
        Furnished.tellsAlone("lag", x -> x.lag());
        Furnished.tellsAlone("wheel", x -> x.wheel(0) + x.wheel(1));
        Furnished.tellsAlone("extreme", x -> x.extreme(0, 0, 99, true, true));
        Furnished.tellsAlone("bounds", x -> x.bounds(0, 9, 1, 1));
        Furnished.tellsAlone("landing", x -> x.landing(0, 0, 1999));
        Furnished.tellsAlone("spreadTold", x -> x.spreadTold(0) + x.spreadTold(1) + x.spreadTold(2));
        Furnished.tellsAlone("compare", x -> x.compare(0, 99, 0));
        Furnished.tellsAlone("compare with none", x -> x.compare(0, 99, 99999));
        Furnished.tellsAlone("waters", x -> x.waters(0, 1, true, true));
        Furnished.tellsAlone("water", x -> x.water(0, 1, true, true, 0));
        Furnished.tellsAlone("range", x -> x.range(0, 1, true));
        Furnished.tellsAlone("gap", x -> x.gap(0, 1, true, 0));
        Furnished.tellsAlone("worn", x -> x.worn(0, 0, 0, 99));
        Furnished.tellsAlone("lasts", x -> x.lasts(0, 99));
        Furnished.tellsAlone("traded", x -> x.traded(0));
        Furnished.tellsAlone("obeyed", x -> x.obeyed(0));
        Furnished.tellsAlone("marked", x -> x.marked(2));
        Furnished.tellsAlone("table", x -> x.table(0, 1, 0, 1));
    }

    private static void fraction() {
        Rig.says("FRACTIONS are told by top() and bottom() without a common divisor, the bottom above 0; 0 is 0 by 1.");
        TideDiscs x = Rig.with("wave a turns 1 in 24 train 10 20; wave b turns 1 in 9 train 7 200 11 199; wave c turns 1 in 24;");
        // half a PLACE a HOUR
        Rig.fine("one hour", x, x.off(0, 0, 1));
        Rig.fraction("one half", x, 1, 2);
        Rig.fine("two hours", x, x.off(0, 0, 2));
        Rig.fraction("one", x, 1, 1);
        Rig.fine("no hours", x, x.off(0, 0, 0));
        Rig.fraction("none", x, 0, 1);
        // 24 by 9 less 77 by 39,800: 8 by 3 less 77 by 39,800 is 318,169 by 119,400
        Rig.fine("b", x, x.off(0, 1, 1));
        Rig.fraction("b", x, 318169, 119400);
        Rig.fill(x, 0, 0, 6, 12, 18);
        Rig.fill(x, 1, -12, 0, 12, 0);
        Rig.fine("below 0", x, x.settings(0, 2, 2, 0, 1, 4, 1));
        Rig.fraction("minus one", x, -1, 1);
        Rig.fine("nothing", x, x.settings(0, 2, 2, 0, 1, 4, 0));
        Rig.fraction("none", x, 0, 1);
        Rig.fill(x, 1, -15, 0, 5, 0);
        Rig.fine("below 0", x, x.settings(0, 2, 2, 0, 1, 4, 1));
        Rig.fraction("minus five sixths", x, -5, 6);
        Rig.refused("refused", x, x.settings(0, 2, 2, 0, 1, 5, 0), 4);
        Rig.says("The top of the FRACTION told latest.");
        Rig.due("top stays", x.top(), -5);
        Rig.says("Its bottom, above 0.");
        Rig.due("bottom stays", x.bottom(), 6);
    }

    // ---- promise 5

    private static void trayNumbers() {
        Rig.says("TRAYS, 0 to 4, are MISSING at first");
        for (int t = 0; t < 5; t++) {
            TideDiscs x = new TideDiscs();
            Rig.fine("tray " + t, x, x.tray(t, 0, 1));
            Rig.fine("it is there", x, x.read(t, 0), 0);
            for (int other = 0; other < 5; other++) {
                if (other != t) {
                    Rig.refused("no other one is", x, x.read(other, 0), 3);
                }
            }
        }
        int[] none = {-1, 5, LEAST, MOST};
        for (int t : none) {
            Furnished.no(1, "tray " + t, x -> x.tray(t, 2, 1));
            Furnished.no(1, "write " + t, x -> x.write(t, 0, 1));
            Furnished.none(1, "read " + t, x -> x.read(t, 0));
            Furnished.no(1, "pour from " + t, x -> x.pour(t, 0, 0, 0, 1));
            Furnished.no(1, "pour to " + t, x -> x.pour(0, 0, t, 0, 1));
        }
    }

    private static void traySorts() {
        Rig.says("rows of numbers of 8 bits (sort 0), 16 (1), 32 (2) or 64 (3), with sign");
        for (int sort = 0; sort < 4; sort++) {
            TideDiscs x = new TideDiscs();
            Rig.fine("sort " + sort, x, x.tray(0, sort, 1));
        }
        Rig.says("no such TRAY (or sort)");
        int[] none = {-1, 4, LEAST, MOST};
        for (int sort : none) {
            Furnished.no(1, "sort " + sort, x -> x.tray(0, sort, 1));
            Furnished.no(1, "sort " + sort + " ahead of too long", x -> x.tray(0, sort, 61));
            Furnished.no(1, "sort " + sort + " ahead of below 0", x -> x.tray(0, sort, -1));
        }
        Furnished.no(1, "no tray ahead of too long", x -> x.tray(5, 0, 61));
        Furnished.no(1, "no tray ahead of below 0", x -> x.tray(-1, 0, -1));
    }

    private static void trayLengths() {
        Rig.says("A TRAY is a row of so many numbers (at most 60; 5), all 0 (1; 5; 6).");
        for (int many : new int[] {0, 1, 59, 60}) {
            TideDiscs x = new TideDiscs();
            Rig.fine("of " + many, x, x.tray(2, 3, many));
            for (int i = 0; i < many; i++) {
                Rig.fine("all 0", x, x.read(2, i), 0);
            }
            Rig.refused("no more than " + many, x, x.read(2, many), 4);
        }
        for (int t = 0; t < 5; t++) {
            int tray = t;
            Furnished.no(5, "61", x -> x.tray(tray, 2, 61));
            Furnished.no(5, "far too many", x -> x.tray(tray, 0, MOST));
            Furnished.no(6, "-1", x -> x.tray(tray, 2, -1));
            Furnished.no(6, "far below 0", x -> x.tray(tray, 3, LEAST));
        }
    }

    private static void trayAnew() {
        Rig.says("all 0 (1; 5; 6)");
        TideDiscs x = new TideDiscs();
        x.tray(1, 2, 60);
        for (int i = 0; i < 60; i++) {
            x.write(1, i, i + 1);
        }
        Rig.fine("shorter", x, x.tray(1, 2, 2));
        Rig.fine("all 0", x, x.read(1, 0), 0);
        Rig.fine("all 0", x, x.read(1, 1), 0);
        Rig.refused("the rest is gone", x, x.read(1, 2), 4);
        Rig.fine("as long as it was", x, x.tray(1, 2, 60));
        for (int i = 0; i < 60; i++) {
            Rig.fine("all 0", x, x.read(1, i), 0);
        }
        x.write(1, 5, 300);
        Rig.fine("of another sort", x, x.tray(1, 0, 60));
        Rig.fine("all 0", x, x.read(1, 5), 0);
        x.write(1, 5, 300);
        Rig.fine("8 bits now", x, x.read(1, 5), 44);
    }

    // ---- promises 6 and 7

    private static void cutToSort() {
        Rig.says("with sign; what is written is cut to these.");
        for (int sort = 0; sort < 4; sort++) {
            int bits = 8 << sort;
            long most = bits == 64 ? Long.MAX_VALUE : (1L << bits - 1) - 1;
            TideDiscs x = new TideDiscs();
            x.tray(0, sort, 2);
            cut(x, 0, 0);
            cut(x, 1, 1);
            cut(x, -1, -1);
            cut(x, most, most);
            cut(x, most + 1, -most - 1);
            cut(x, -most - 1, -most - 1);
            cut(x, -most - 2, most);
            cut(x, 2 * most + 1, -1);
            cut(x, 2 * most + 2, 0);
            cut(x, Long.MAX_VALUE, bits == 64 ? Long.MAX_VALUE : -1);
            cut(x, Long.MIN_VALUE, bits == 64 ? Long.MIN_VALUE : 0);
        }
    }

    private static void cut(TideDiscs x, long written, long want) {
        Rig.fine("write " + written, x, x.write(0, 1, written));
        Rig.fine("read " + written, x, x.read(0, 1), want);
        Rig.fine("its neighbour", x, x.read(0, 0), 0);
    }

    private static void writePlaces() {
        Rig.says("A number comes to a place of a TRAY (1; 3; 4).");
        TideDiscs x = new TideDiscs();
        x.tray(0, 3, 60);
        Rig.fine("the first place", x, x.write(0, 0, 7));
        Rig.fine("the last place", x, x.write(0, 59, 8));
        Rig.fine("the first place", x, x.read(0, 0), 7);
        Rig.fine("the last place", x, x.read(0, 59), 8);
        for (int i = 1; i < 59; i++) {
            Rig.fine("no other place", x, x.read(0, i), 0);
        }
        for (int place : new int[] {-1, 60, LEAST, MOST}) {
            Rig.refused("place " + place, x, x.write(0, place, 9), 4);
        }
        for (int place : new int[] {-1, Furnished.READINGS, 60, LEAST, MOST}) {
            Furnished.no(4, "place " + place, y -> y.write(0, place, 5));
        }
        Furnished.no(4, "an empty tray", y -> y.write(Furnished.EMPTY_TRAY, 0, 5));
        Furnished.no(3, "missing", y -> y.write(Furnished.MISSING_TRAY, 0, 5));
        Furnished.no(3, "missing ahead of no place", y -> y.write(Furnished.MISSING_TRAY, -1, 5));
        Furnished.no(1, "no tray ahead of no place", y -> y.write(5, -1, 5));
    }

    private static void readPlaces() {
        Rig.says("The number in a place of a TRAY; STATUS tells NONE from -1 (1; 3; 4).");
        for (int place : new int[] {-1, Furnished.READINGS, 60, LEAST, MOST}) {
            Furnished.none(4, "place " + place, y -> y.read(1, place));
        }
        Furnished.none(4, "an empty tray", y -> y.read(Furnished.EMPTY_TRAY, 0));
        Furnished.none(3, "missing", y -> y.read(Furnished.MISSING_TRAY, 0));
        Furnished.none(3, "missing ahead of no place", y -> y.read(Furnished.MISSING_TRAY, 60));
        Furnished.none(1, "no tray ahead of no place", y -> y.read(-1, 60));
    }

    private static void readNone() {
        for (int sort = 0; sort < 4; sort++) {
            TideDiscs x = new TideDiscs();
            x.tray(0, sort, 1);
            x.write(0, 0, -1);
            Rig.fine("-1 that was written", x, x.read(0, 0), -1);
            Rig.refused("NONE", x, x.read(0, 1), 4);
        }
    }

    // ---- promise 8

    private static TideDiscs counted() {
        TideDiscs x = new TideDiscs();
        Rig.fill(x, 0, 1, 2, 3, 4, 5);
        Rig.fill(x, 1, 11, 12, 13);
        return x;
    }

    private static void row(String what, TideDiscs x, int tray, long... wants) {
        for (int i = 0; i < wants.length; i++) {
            Rig.fine(what + ", place " + i, x, x.read(tray, i), wants[i]);
        }
    }

    private static void pourPlaces() {
        Rig.says("So many numbers from place i on of a TRAY come to place j on of another one, or the same");
        TideDiscs x = counted();
        Rig.fine("as many as there is room", x, x.pour(0, 0, 1, 0, 3));
        row("all of it", x, 1, 1, 2, 3);
        x = counted();
        Rig.fine("up to both ends", x, x.pour(0, 3, 1, 1, 2));
        row("up to both ends", x, 1, 11, 4, 5);
        row("the source stays", x, 0, 1, 2, 3, 4, 5);
        x = counted();
        Rig.fine("one", x, x.pour(1, 2, 0, 4, 1));
        row("one", x, 0, 1, 2, 3, 4, 13);
        x = counted();
        Rig.fine("none", x, x.pour(0, 0, 1, 0, 0));
        Rig.fine("none at both ends", x, x.pour(0, 5, 1, 3, 0));
        row("none", x, 1, 11, 12, 13);
        x.tray(2, 2, 0);
        Rig.fine("none from an empty one", x, x.pour(2, 0, 2, 0, 0));
        Rig.refused("one from an empty one", x, x.pour(2, 0, 0, 0, 1), 4);
        Rig.refused("one to an empty one", x, x.pour(0, 0, 2, 0, 1), 4);
        x = new TideDiscs();
        x.tray(0, 1, 60);
        x.tray(1, 1, 60);
        x.write(0, 0, 5);
        x.write(0, 59, 6);
        Rig.fine("a full one", x, x.pour(0, 0, 1, 0, 60));
        Rig.fine("first", x, x.read(1, 0), 5);
        Rig.fine("last", x, x.read(1, 59), 6);
        int r = Furnished.READINGS;
        int[][] bad = {
            {-1, 0, 1}, {0, -1, 1}, {r, 0, 1}, {0, r, 1}, {0, 0, r + 1}, {1, 0, r}, {0, 1, r}, {r + 1, 0, 0}, {0, r + 1, 0},
            {-1, 0, 0}, {0, -1, 0}, {LEAST, 0, 1}, {0, LEAST, 1}, {MOST, 0, 1}, {0, MOST, 1}, {1, 1, MOST}, {MOST, MOST, MOST}
        };
        for (int[] b : bad) {
            Furnished.no(4, "pour " + b[0] + " to " + b[1] + " " + b[2], y -> y.pour(0, b[0], 1, b[1], b[2]));
        }
    }

    private static void pourTheSame() {
        Rig.says("or the same, as they were");
        TideDiscs x = counted();
        Rig.fine("forward over itself", x, x.pour(0, 0, 0, 1, 4));
        row("forward", x, 0, 1, 1, 2, 3, 4);
        x = counted();
        Rig.fine("back over itself", x, x.pour(0, 1, 0, 0, 4));
        row("back", x, 0, 2, 3, 4, 5, 5);
        x = counted();
        Rig.fine("onto itself", x, x.pour(0, 0, 0, 0, 5));
        row("onto itself", x, 0, 1, 2, 3, 4, 5);
        Rig.refused("over the end", x, x.pour(0, 0, 0, 1, 5), 4);
        row("refused", x, 0, 1, 2, 3, 4, 5);
    }

    private static void pourSorts() {
        Rig.says("11 TRAYS of unlike sorts.");
        for (int one = 0; one < 4; one++) {
            for (int other = 0; other < 4; other++) {
                TideDiscs x = new TideDiscs();
                x.tray(0, one, 1);
                x.tray(1, other, 1);
                x.write(0, 0, -7);
                x.write(1, 0, 9);
                if (one == other) {
                    Rig.fine("alike", x, x.pour(0, 0, 1, 0, 1));
                    row("alike", x, 1, -7);
                } else {
                    Rig.refused("unlike", x, x.pour(0, 0, 1, 0, 1), 11);
                    Rig.refused("unlike, of none", x, x.pour(0, 0, 1, 0, 0), 11);
                    row("unlike", x, 1, 9);
                }
            }
        }
    }

    private static void pourOrder() {
        Rig.says("1, 3 (either), 11, 6, 4, asked in this order.");
        int missing = Furnished.MISSING_TRAY;
        Furnished.no(1, "1 ahead of 3", x -> x.pour(missing, -1, 5, -1, -1));
        Furnished.no(1, "1 ahead of 3", x -> x.pour(-1, -1, missing, -1, -1));
        Furnished.no(3, "3, the source", x -> x.pour(missing, 0, 0, 0, 1));
        Furnished.no(3, "3, the target", x -> x.pour(0, 0, missing, 0, 1));
        Furnished.no(3, "3 ahead of 11, 6, 4", x -> x.pour(missing, -1, 2, -1, -1));
        Furnished.no(3, "3 ahead of 11, 6, 4", x -> x.pour(2, -1, missing, -1, -1));
        Furnished.no(11, "11 ahead of 6", x -> x.pour(0, 0, 2, 0, -1));
        Furnished.no(11, "11 ahead of 4", x -> x.pour(0, -1, 2, 99, 1));
        Furnished.no(6, "6", x -> x.pour(0, 0, 1, 0, -1));
        Furnished.no(6, "6, far below", x -> x.pour(0, 0, 1, 0, LEAST));
        Furnished.no(6, "6 ahead of 4", x -> x.pour(0, -1, 1, 99, -1));
    }
}
