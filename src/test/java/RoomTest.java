import com.sun.management.ThreadMXBean;
import java.lang.management.ManagementFactory;

/** All calls of a run live in one room: a new object takes little of it, and a call takes none. */
public final class RoomTest {
    private static final long MOST_BYTES_OF_AN_OBJECT = 24000;
    private static final ThreadMXBean THREADS = (ThreadMXBean) ManagementFactory.getThreadMXBean();

    private static int wrong = 0;

    public static void main(String[] args) {
        // three objects, for each of them is used for 512 calls at the most
        TideDiscs[] kept = {new TideDiscs(), new TideDiscs(), null};
        long before = allocated();
        kept[2] = new TideDiscs();
        long made = allocated() - before;
        check("a new object takes " + made + " bytes", made <= MOST_BYTES_OF_AN_OBJECT);

        int[][] machine = ints("wave a turns 2 in 25 size 50 train 31 30 7 11; wave b turns 1 in 24 size 40 train 9 9;"
            + "wave c turns 1 in 12 size 9; box 2 of 10; box 2 of 20; box 3 of 7; slack 2; zero 3;");
        int[][] program = ints("loop 3;until high;mark;when above less 5;read;end;until below 3;end;until above 9999;");
        // the first time brings the program's own texts in
        long sum = everything(kept[0], machine, program);
        allocated();
        before = allocated();
        sum += everything(kept[1], machine, program);
        sum += everything(kept[2], machine, program);
        long taken = allocated() - before;
        check("calls took " + taken + " bytes (answers come to " + sum + ")", taken <= 256);
        System.out.println("a new object takes " + made + " bytes, its calls " + taken);
        if (wrong != 0) {
            System.exit(1);
        }
    }

    private static long allocated() {
        return THREADS.getThreadAllocatedBytes(Thread.currentThread().getId());
    }

    private static void check(String what, boolean good) {
        if (!good) {
            wrong++;
            System.out.println("not as due: " + what);
        }
    }

    private static int[][] ints(String text) {
        int[][] rows = new int[(text.length() + 19) / 20][6];
        for (int i = 0; i < 20 * rows.length; i++) {
            int b = i < text.length() ? text.charAt(i) : 32;
            int[] row = rows[i / 20];
            row[i % 20 / 4] = row[i % 20 / 4] << 8 | b;
        }
        rows[0][5] = text.length();
        return rows;
    }

    private static int fed(TideDiscs x, int[][] rows) {
        for (int[] r : rows) {
            x.feed(r[0], r[1], r[2], r[3], r[4]);
        }
        return rows[0][5];
    }

    private static long everything(TideDiscs x, int[][] machine, int[][] program) {
        long sum = x.machine(0, fed(x, machine));
        sum += x.machine(1, fed(x, machine));
        sum += x.orders(fed(x, program));
        for (int t = 0; t < 4; t++) {
            x.tray(t, 2, 24);
            for (int i = 0; i < 24; i++) {
                x.write(t, i, t % 2 == 0 ? 5 * i : x.height(0, 5 * i, true) / 12);
            }
        }
        sum += x.read(1, 5) + (x.pour(0, 0, 1, 0, 0) ? 1 : 0) + x.fault(0) + x.told(0, 0) + x.wave(0, 0, 4);
        sum += x.place(0, 0, 9, true) + x.pointer(0, 0, 2000) + (x.off(0, 0, 9) ? x.top() : 0) + x.train(0, 0, 2);
        sum += x.trained(0) + x.share(0, 7, 99, 5) + x.shared(0) + (x.settings(0, 0, 2, 0, 1, 24, 0) ? x.bottom() : 0);
        sum += x.changed(0, 0, 1, 0, 1, 2, 3, 24, 1) + x.slipped(0, 0, 1, 24, 0) + x.slipped(0, 0, 1, 24, 1) + x.slip();
        sum += x.neighbour(0, 0, 1, 24) + x.lag() + x.led(0, 0, 1, 24) + x.wheel(0) + x.extreme(0, 0, 1999, true, true);
        sum += x.bounds(0, 5, 5, 1) + (x.ask(0, 1, 5, true, 0, 1, 0, 23) ? 1 : 0) + x.landing(0, 0, 1999);
        sum += x.spread(0, 0, 0, 47) + x.spreadTold(2) + x.compare(0, 1999, 0) + x.waters(0, 9, true, true);
        sum += x.water(0, 9, true, true, 0) + x.range(0, 9, true) + x.gap(0, 9, true, 0) + x.worn(0, 0, 3, 9999);
        sum += x.lasts(0, 999) + x.trade(9999) + x.traded(0) + x.obey(0, 0) + x.obeyed(1) + x.marked(0);
        sum += x.table(0, 1, 0, 24) + (x.set(0, 0, 5, 5) ? 1 : 0) + x.status();
        return sum;
    }
}
