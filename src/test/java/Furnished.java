import java.util.ArrayList;
import java.util.List;
import java.util.function.Consumer;
import java.util.function.Predicate;
import java.util.function.ToLongFunction;

/**
 * An object in which every call has told something. A refused call is made on it, and all that it can tell then is held
 * against one on which that call was not made: nothing but STATUS may be another.
 */
final class Furnished {
    static final String MACHINE_0 = "wave a turns 1 in 24 size 60 at 2 train 31 30; wave b turns 2 in 25 size 7 train 23 12 9 8;"
        + "wave c turns 1 in 12 size 5 at 7; box 2 of 10; box 2 of 20; box 1 of 12; slack 3; zero 4;";
    static final String MACHINE_1 = "wave d turns 1 in 24 size 9 train 20 21; wave e turns 1 in 13 size 8 train 12 24 7 5;"
        + "box 3 of 30; slack 5; zero 6;";
    static final String ORDERS = "until high;mark;read;loop 2;go 5;mark;end;";
    static final String TAPE = "slack 77; zero 88;  ";

    /** TRAYS 0 and 1 are a GAUGE of so many. */
    static final int READINGS = 6;
    /** TRAY 2 has 64 bits, and so many numbers. */
    static final int LONGS = 3;
    /** TRAY 3 has 8 bits, and no numbers; TRAY 4 is MISSING. */
    static final int EMPTY_TRAY = 3;
    static final int MISSING_TRAY = 4;

    private Furnished() {
    }

    static TideDiscs make() {
        TideDiscs x = new TideDiscs();
        Rig.machine(x, 0, MACHINE_0);
        Rig.machine(x, 1, MACHINE_1);
        x.tray(0, 2, READINGS);
        x.tray(1, 2, READINGS);
        for (int i = 0; i < READINGS; i++) {
            x.write(0, i, 100 + 37 * i);
            x.write(1, i, x.height(0, 100 + 37 * i + (i < 2 ? 0 : 1), false) / 12);
        }
        x.tray(2, 3, LONGS);
        x.write(2, 0, Long.MIN_VALUE);
        x.write(2, 2, 1L << 40);
        x.tray(EMPTY_TRAY, 0, 0);
        x.slipped(0, 0, 1, READINGS, 0);
        x.neighbour(1, 0, 1, READINGS);
        x.led(0, 0, 1, READINGS);
        x.spread(0, 0, 0, 30);
        x.trade(100);
        x.share(0, 1, 99, 5);
        Rig.orders(x, ORDERS);
        x.obey(0, 9);
        x.ask(-400, 700, 1, true, 2, 8, 20, 17);
        Rig.machine(x, 1, "zero 100;");
        x.train(0, 1, 2);
        x.settings(0, 0, 0, 0, 1, READINGS, 1);
        Rig.feed(x, TAPE);
        return x;
    }

    /** All that the object can tell. It is used up by that. */
    private static List<Long> tells(TideDiscs x) {
        List<Long> all = new ArrayList<>();
        all.add((long) x.fault(0));
        all.add((long) x.fault(1));
        tellBesidesTexts(x, all);
        tellTape(x, all);
        return all;
    }

    /** All but the tape, and what fault() tells. */
    private static void tellBesidesTexts(TideDiscs x, List<Long> all) {
        all.add(x.top());
        all.add(x.bottom());
        tellTrays(x, all);
        tellMachines(x, all);
        tellLatest(x, all);
        tellAsked(x, all);
    }

    private static void add(TideDiscs x, List<Long> all, long answer) {
        all.add(answer);
        all.add((long) x.status());
    }

    private static void tellTrays(TideDiscs x, List<Long> all) {
        for (int t = 0; t < 5; t++) {
            for (int i = 0; i <= (t < 2 ? READINGS : LONGS); i++) {
                add(x, all, x.read(t, i));
            }
        }
    }

    private static void tellMachines(TideDiscs x, List<Long> all) {
        for (int m = 0; m < 2; m++) {
            for (int what = 0; what < 4; what++) {
                all.add((long) x.told(m, what));
            }
            for (int w = 0; w < 3; w++) {
                for (int what = 0; what < 8; what++) {
                    all.add((long) x.wave(m, w, what));
                }
            }
        }
    }

    private static void tellLatest(TideDiscs x, List<Long> all) {
        for (int k = 0; k < 5; k++) {
            all.add((long) x.trained(k));
        }
        for (int k = 0; k < 3; k++) {
            all.add((long) x.shared(k));
        }
        add(x, all, x.slip());
        add(x, all, x.lag());
        add(x, all, x.wheel(0));
        add(x, all, x.wheel(1));
        for (int what = 0; what < 3; what++) {
            add(x, all, x.spreadTold(what));
        }
        for (int what = 0; what < 4; what++) {
            add(x, all, x.traded(what));
            add(x, all, x.obeyed(what));
            add(x, all, x.marked(what));
        }
    }

    /** What is asked is seen by where it leads; so are the BOX and the ORDERS. */
    private static void tellAsked(TideDiscs x, List<Long> all) {
        int from = 0;
        for (int i = 0; i < 6; i++) {
            int hour = x.landing(0, from, from + 1999);
            add(x, all, hour);
            from = Math.max(0, hour) + 1;
        }
        for (int m = 0; m < 2; m++) {
            add(x, all, x.train(m, 0, 1));
            add(x, all, x.share(m, 2, 99, 1));
            add(x, all, x.obey(m, 5));
            add(x, all, x.obeyed(0));
        }
    }

    private static void tellTape(TideDiscs x, List<Long> all) {
        all.add((long) x.feed(0, 0, 0, 0, 0));
        add(x, all, x.machine(1, TAPE.length()));
        add(x, all, x.told(1, 2));
        add(x, all, x.told(1, 3));
        // 300 is cut by 8 bits, 1L << 33 by 32
        for (int t = 0; t < 5; t++) {
            x.write(t, 0, (1L << 33) + 300);
            add(x, all, x.read(t, 0));
        }
    }

    /** A call that gives NONE and this STATUS, and changes nothing else. */
    static void none(int status, String what, ToLongFunction<TideDiscs> call) {
        none(status, what, x -> { }, call);
    }

    /** The same behind something that is done first. */
    static void none(int status, String what, Consumer<TideDiscs> first, ToLongFunction<TideDiscs> call) {
        TideDiscs x = make();
        first.accept(x);
        Rig.refused(what, x, call.applyAsLong(x), status);
        leftAsItWas(what, x, first);
    }

    /** A call that gives false and this STATUS, and changes nothing else. */
    static void no(int status, String what, Predicate<TideDiscs> call) {
        no(status, what, x -> { }, call);
    }

    static void no(int status, String what, Consumer<TideDiscs> first, Predicate<TideDiscs> call) {
        TideDiscs x = make();
        first.accept(x);
        Rig.refused(what, x, call.test(x), status);
        leftAsItWas(what, x, first);
    }

    /** A call that is taken, and changes nothing but STATUS. */
    static void tellsAlone(String what, ToLongFunction<TideDiscs> call) {
        TideDiscs x = make();
        x.told(2, 0);
        call.applyAsLong(x);
        Rig.due("status of " + what, x.status(), 0);
        leftAsItWas(what, x, y -> { });
    }

    /** A machine() or orders() with a FAULT: the tape is empty then and fault() tells it, and nothing else changes. */
    static void faulty(String what, ToLongFunction<TideDiscs> call, int kind, int place) {
        TideDiscs x = make();
        Rig.refused(what, x, call.applyAsLong(x), 10);
        Rig.due("kind of " + what, x.fault(0), kind);
        Rig.due("place of " + what, x.fault(1), place);
        List<Long> is = new ArrayList<>();
        List<Long> wants = new ArrayList<>();
        tellBesidesTexts(x, is);
        tellBesidesTexts(make(), wants);
        same(what, is, wants);
        Rig.due("the tape is empty behind " + what, x.feed(0, 0, 0, 0, 0), 20);
    }

    private static void leftAsItWas(String what, TideDiscs x, Consumer<TideDiscs> first) {
        TideDiscs other = make();
        first.accept(other);
        same(what, tells(x), tells(other));
    }

    private static void same(String what, List<Long> is, List<Long> wants) {
        for (int i = 0; i < wants.size(); i++) {
            Rig.due(what + " leaves all as it was, thing " + i, is.get(i), wants.get(i));
        }
    }
}
