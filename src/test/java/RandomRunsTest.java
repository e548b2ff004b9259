import java.util.ArrayList;
import java.util.List;
import java.util.Random;

/** Runs of calls, drawn with fixed seeds, on TideDiscs and on the PlainModel: every answer and STATUS must be alike. */
public final class RandomRunsTest {
    /** An object is used for at most 512 calls, status(), top() and bottom() among them; one drawing takes at most 150. */
    private static final int CALLS_OF_A_DRAWING = 150;
    private static final int CALLS = 512 - CALLS_OF_A_DRAWING;
    private static final int MOST_SHOWN = 20;

    private static int wrong = 0;
    private static long calls = 0;

    private final Random random;
    private final int seed;
    private final TideDiscs is = new TideDiscs();
    private final PlainModel due = new PlainModel();
    private int made = 0;

    private RandomRunsTest(int seed) {
        this.seed = seed;
        random = new Random(seed);
    }

    public static void main(String[] args) {
        int runs = args.length > 0 ? Integer.parseInt(args[0]) : 300;
        int first = args.length > 1 ? Integer.parseInt(args[1]) : 1;
        for (int seed = first; seed < first + runs && wrong < MOST_SHOWN; seed++) {
            new RandomRunsTest(seed).run();
        }
        System.out.println(calls + " drawn calls, " + wrong + " answers not as due");
        if (wrong != 0) {
            System.exit(1);
        }
    }

    private void run() {
        drawMachine();
        drawMachine();
        drawGauge();
        while (made < CALLS && wrong < MOST_SHOWN) {
            int before = made;
            drawCall();
            sameFraction();
            if (made > before + CALLS_OF_A_DRAWING) {
                fail("a drawing took " + (made - before) + " calls");
            }
        }
        calls += made;
    }

    /** The answer alone, for calls that come in rows. */
    private void alike(String call, long got, long want) {
        made++;
        if (got != want) {
            fail(call + " answered " + got + ", due is " + want);
        }
    }

    private void same(String call, long got, long want) {
        alike(call, got, want);
        made++;
        int status = is.status();
        if (status != due.status()) {
            fail(call + " has status " + status + ", due is " + due.status());
        }
    }

    private void sameFraction() {
        made += 2;
        long top = is.top();
        long bottom = is.bottom();
        if (top != due.top() || bottom != due.bottom()) {
            fail("the fraction is " + top + "/" + bottom + ", due is " + due.top() + "/" + due.bottom());
        }
    }

    private void fail(String what) {
        wrong++;
        System.out.println("seed " + seed + ", call " + made + ": " + what);
    }

    private static long flag(boolean b) {
        return b ? 1 : 0;
    }

    // ---- numbers

    private int upTo(int n) {
        return random.nextInt(n + 1);
    }

    private boolean rarely() {
        return random.nextInt(25) == 0;
    }

    /** Mostly from least to most, with love for the edges, rarely beyond them. */
    private int about(int least, int most) {
        switch (random.nextInt(40)) {
            case 0: return least - 1;
            case 1: return most + 1;
            case 2: return random.nextInt();
            case 3: return Integer.MIN_VALUE;
            case 4: return Integer.MAX_VALUE;
            case 5:
            case 6: return least;
            case 7:
            case 8: return most;
            default: return least + random.nextInt(most - least + 1);
        }
    }

    private int aMachine() {
        return rarely() ? about(0, 1) : random.nextInt(4) / 3;
    }

    private int aWave(int machine) {
        int many = due.waveCount(machine);
        return rarely() || many == 0 ? about(0, 5) : random.nextInt(many);
    }

    private int anHour() {
        return random.nextInt(3) == 0 ? about(0, 99999) : about(0, 300);
    }

    private int anEnd(int from, int most) {
        return rarely() ? about(0, 99999) : random.nextInt(6) == 0 ? from + most - 1 + upTo(1) : from + upTo(most / 8);
    }

    private boolean either() {
        return random.nextBoolean();
    }

    // ---- texts

    private void feedText(String text) {
        for (int i = 0; i < text.length(); i += 20) {
            int[] five = new int[5];
            for (int j = 0; j < 20; j++) {
                int b = i + j < text.length() ? text.charAt(i + j) & 255 : 32;
                five[j / 4] = five[j / 4] << 8 | b;
            }
            alike("feed", is.feed(five[0], five[1], five[2], five[3], five[4]),
                due.feed(five[0], five[1], five[2], five[3], five[4]));
        }
    }

    private String blank() {
        return new String[] {" ", " ", " ", " ", "  ", "\n", " \n"}[random.nextInt(7)];
    }

    private String number(int least, int most) {
        if (random.nextInt(150) == 0) {
            return new String[] {"", "10000", "0", "9999", "00012", "201", "4"}[random.nextInt(7)];
        }
        int n = least + random.nextInt(most - least + 1);
        return random.nextInt(30) == 0 && n < 1000 ? "0" + n : "" + n;
    }

    private int teeth() {
        return random.nextInt(8) == 0 ? new int[] {5, 200, 199, 6}[random.nextInt(4)] : 5 + random.nextInt(30);
    }

    private String aWaveText(int i) {
        String name = random.nextInt(60) == 0
            ? new String[] {"of", "size", "wave", "a", "abcdefghi", "abcdefgh"}[random.nextInt(6)] : "" + (char) ('a' + i);
        int[] period = {12, 24, 48, 25, 13, 7, 1 + random.nextInt(100), 1 + random.nextInt(9999)};
        StringBuilder s = new StringBuilder("wave" + blank() + name + blank() + "turns" + blank());
        s.append(random.nextInt(5) == 0 ? number(1, 9999) : number(1, 5));
        s.append(blank()).append("in").append(blank());
        s.append(random.nextInt(150) == 0 ? number(0, 9999) : "" + period[random.nextInt(8)]);
        List<String> settings = new ArrayList<>();
        if (random.nextInt(8) != 0) {
            settings.add("size" + blank() + number(0, random.nextInt(60) == 0 ? 101 : 99));
        }
        if (either()) {
            settings.add("at" + blank() + number(0, random.nextInt(60) == 0 ? 25 : 23));
        }
        if (random.nextInt(3) != 0) {
            String train = "train" + blank() + teeth() + blank() + teeth();
            if (either()) {
                train += blank() + teeth() + blank() + teeth();
            }
            settings.add(train);
        }
        if (random.nextInt(60) == 0) {
            settings.add("size 4");
        }
        while (!settings.isEmpty()) {
            s.append(blank()).append(settings.remove(random.nextInt(settings.size())));
        }
        return s + ";";
    }

    private String aMachineText() {
        StringBuilder s = new StringBuilder();
        int waves = random.nextInt(30) == 0 ? 7 : random.nextInt(7);
        for (int i = 0; i < waves; i++) {
            s.append(aWaveText(i)).append(blank());
        }
        int kinds = random.nextInt(20) == 0 ? 6 + random.nextInt(6) : random.nextInt(6);
        for (int i = 0; i < kinds; i++) {
            int t = random.nextInt(60) == 0 ? 10 : 5 + 7 * i + random.nextInt(7);
            s.append("box ").append(number(0, random.nextInt(8) == 0 ? 9 : 3)).append(" of ").append(t).append(";");
        }
        if (either()) {
            s.append("slack").append(blank()).append(number(0, 99)).append(";");
        }
        if (either()) {
            s.append("zero").append(blank()).append(number(0, 99)).append(";");
        }
        return spoiled(s.toString());
    }

    /** Rarely a byte is another one, is gone, or the text ends early. */
    private String spoiled(String text) {
        if (text.isEmpty() || random.nextInt(4) != 0) {
            return text;
        }
        int i = random.nextInt(text.length());
        switch (random.nextInt(4)) {
            case 0: return text.substring(0, i);
            case 1: return text.substring(0, i) + text.substring(i + 1);
            case 2: return text.substring(0, i) + (char) random.nextInt(256) + text.substring(i + 1);
            default: return text.substring(0, i) + "; 7wave#\n".charAt(random.nextInt(9)) + text.substring(i);
        }
    }

    private String aLevel() {
        return (either() ? "above" : "below") + blank() + (either() ? "less " : "") + number(0, either() ? 999 : 9999);
    }

    private void addSteps(StringBuilder s, int depth, int many) {
        for (int i = 0; i < many; i++) {
            switch (random.nextInt(8)) {
                case 0: s.append("go ").append(number(0, random.nextInt(4) == 0 ? 9999 : 30)).append(";"); break;
                case 1: s.append("until ").append(either() ? "high" : "low").append(";"); break;
                case 2: s.append("until ").append(aLevel()).append(";"); break;
                case 3: s.append("mark;").append(blank()); break;
                case 4: s.append("read").append(blank()).append(";"); break;
                case 5:
                case 6: {
                    s.append("loop ").append(number(1, 9)).append(";");
                    addSteps(s, depth + 1, depth > 2 ? 0 : random.nextInt(4));
                    s.append("end;");
                    break;
                }
                default: {
                    s.append("when ").append(aLevel()).append(";");
                    addSteps(s, depth + 1, depth > 2 ? 0 : random.nextInt(4));
                    s.append("end;");
                    break;
                }
            }
        }
    }

    private String anOrdersText() {
        StringBuilder s = new StringBuilder();
        if (random.nextInt(20) == 0) {
            for (int i = 0; i < 39 + random.nextInt(3); i++) {
                s.append("mark;");
            }
        }
        addSteps(s, 0, random.nextInt(6));
        return spoiled(s.toString());
    }

    // ---- calls

    private void drawCall() {
        int kind = random.nextInt(100);
        if (kind < 4) {
            drawMachine();
        } else if (kind < 8) {
            drawOrders();
        } else if (kind < 20) {
            drawTray();
        } else if (kind < 24) {
            drawGauge();
        } else if (kind < 40) {
            drawByGauge();
        } else if (kind < 55) {
            drawHeight();
        } else if (kind < 70) {
            drawSpan();
        } else if (kind < 85) {
            drawWheels();
        } else {
            drawDay();
        }
    }

    private void tellFault() {
        int what = about(0, 1);
        same("fault " + what, is.fault(what), due.fault(what));
    }

    private void drawMachine() {
        String text = aMachineText();
        feedText(text);
        int m = rarely() ? about(0, 1) : random.nextInt(2);
        int n = rarely() ? about(0, 600) : text.length();
        same("machine " + m + " " + n + " [" + text + "]", is.machine(m, n), due.machine(m, n));
        same("fault 0", is.fault(0), due.fault(0));
        same("fault 1", is.fault(1), due.fault(1));
        for (int what = 0; what < 4; what++) {
            same("told " + m + " " + what, is.told(m, what), due.told(m, what));
        }
    }

    private void drawOrders() {
        String text = anOrdersText();
        feedText(text);
        int n = rarely() ? about(0, 300) : text.length();
        same("orders " + n + " [" + text + "]", is.orders(n), due.orders(n));
        same("fault 0", is.fault(0), due.fault(0));
        same("fault 1", is.fault(1), due.fault(1));
        drawObey();
    }

    private void drawObey() {
        int m = aMachine();
        int h = anHour();
        same("obey " + m + " " + h, is.obey(m, h), due.obey(m, h));
        for (int what = 0; what < 4; what++) {
            same("obeyed " + what, is.obeyed(what), due.obeyed(what));
        }
        int k = about(0, 30);
        same("marked " + k, is.marked(k), due.marked(k));
        k = random.nextInt(4);
        same("marked " + k, is.marked(k), due.marked(k));
    }

    private void drawTray() {
        int t = about(0, 4);
        int p = about(0, 24);
        switch (random.nextInt(6)) {
            case 0: {
                int sort = random.nextInt(3) == 0 ? about(0, 3) : 2;
                int many = either() ? 24 : about(0, 60);
                same("tray " + t + " " + sort + " " + many, flag(is.tray(t, sort, many)), flag(due.tray(t, sort, many)));
                break;
            }
            case 1:
            case 2: {
                long v = either() ? random.nextLong() : about(-999, 1000);
                same("write " + t + " " + p + " " + v, flag(is.write(t, p, v)), flag(due.write(t, p, v)));
                break;
            }
            case 3:
                same("read " + t + " " + p, is.read(t, p), due.read(t, p));
                break;
            case 4: {
                int to = either() ? t : about(0, 4);
                int j = about(0, 30);
                int many = about(0, 30);
                same("pour " + t + " " + p + " " + to + " " + j + " " + many,
                    flag(is.pour(t, p, to, j, many)), flag(due.pour(t, p, to, j, many)));
                break;
            }
            default:
                same("table", is.table(0, t, p, 1), due.table(0, t, p, 1));
                break;
        }
    }

    /** A GAUGE in TRAYS 0 and 1, or 2 and 3, near to what a MACHINE tells. */
    private void drawGauge() {
        int t = either() ? 0 : 2;
        int m = random.nextInt(2);
        boolean turned = either();
        int from = anHour();
        int step = 1 + random.nextInt(8);
        int slipAt = random.nextInt(30);
        int slip = random.nextInt(11) - 5;
        int move = either() ? 0 : random.nextInt(101) - 50;
        int noise = either() ? 0 : random.nextInt(3);
        boolean gaps = either();
        same("tray", flag(is.tray(t, 2, 24)), flag(due.tray(t, 2, 24)));
        same("tray", flag(is.tray(t + 1, 2, 24)), flag(due.tray(t + 1, 2, 24)));
        for (int i = 0; i < 24; i++) {
            int hour = from + i * step + (either() ? random.nextInt(step) : 0);
            int by = i < slipAt ? 0 : slip;
            int h = Math.max(0, Math.min(99999, hour + (move == 0 ? by : 0)));
            int v = due.height(m, h, turned) / 12 + (i < slipAt ? 0 : move) + (noise == 0 ? 0 : random.nextInt(2 * noise + 1) - noise);
            if (gaps && random.nextInt(5) == 0) {
                v = 1000;
            }
            int written = rarely() && rarely() ? 1001 : v;
            alike("write", flag(is.write(t, i, hour)), flag(due.write(t, i, hour)));
            alike("write", flag(is.write(t + 1, i, written)), flag(due.write(t + 1, i, written)));
        }
    }

    private void drawByGauge() {
        int m = aMachine();
        int t = either() ? 0 : 2;
        int hours = rarely() ? about(0, 4) : t;
        int read = rarely() ? about(0, 4) : t + 1;
        int many = random.nextInt(3) == 0 ? 24 : about(1, 24);
        switch (random.nextInt(5)) {
            case 0: {
                int one = aWave(m);
                int other = random.nextInt(4) == 0 ? one : aWave(m);
                int what = about(0, 4);
                same("settings " + m + " " + one + " " + other + " " + hours + " " + read + " " + many + " " + what,
                    flag(is.settings(m, one, other, hours, read, many, what)),
                    flag(due.settings(m, one, other, hours, read, many, what)));
                break;
            }
            case 1: {
                int one = aWave(m);
                int other = random.nextInt(4) == 0 ? one : aWave(m);
                int more = either() ? about(0, 5) : about(0, 999);
                int[] of = {hours, read, rarely() ? about(0, 4) : 2 - t, rarely() ? about(0, 4) : 3 - t};
                same("changed " + m + " " + one + " " + other + " " + many + " " + more,
                    is.changed(m, one, other, of[0], of[1], of[2], of[3], many, more),
                    due.changed(m, one, other, of, many, more));
                break;
            }
            case 2: {
                int what = about(0, 1);
                same("slipped " + m + " " + hours + " " + read + " " + many + " " + what,
                    is.slipped(m, hours, read, many, what), due.slipped(m, hours, read, many, what));
                same("slip", is.slip(), due.slip());
                break;
            }
            case 3:
                same("neighbour " + m, is.neighbour(m, hours, read, many), due.neighbour(m, hours, read, many));
                same("lag", is.lag(), due.lag());
                break;
            default: {
                same("led " + m, is.led(m, hours, read, many), due.led(m, hours, read, many));
                int what = about(0, 1);
                same("wheel " + what, is.wheel(what), due.wheel(what));
                break;
            }
        }
    }

    private void drawHeight() {
        int m = aMachine();
        int w = aWave(m);
        int h = anHour();
        boolean turned = either();
        switch (random.nextInt(7)) {
            case 0: {
                int what = about(0, 7);
                same("wave " + m + " " + w + " " + what, is.wave(m, w, what), due.wave(m, w, what));
                break;
            }
            case 1: {
                int size = about(0, 99);
                int at = about(0, 23);
                same("set " + m + " " + w + " " + size + " " + at, flag(is.set(m, w, size, at)), flag(due.set(m, w, size, at)));
                break;
            }
            case 2:
                same("place " + m + " " + w + " " + h + " " + turned, is.place(m, w, h, turned), due.place(m, w, h, turned));
                break;
            case 3:
                same("height " + m + " " + h + " " + turned, is.height(m, h, turned), due.height(m, h, turned));
                break;
            case 4: {
                int to = rarely() ? h + 2000 + upTo(1) : anEnd(h, 2000);
                same("pointer " + m + " " + h + " " + to, is.pointer(m, h, to), due.pointer(m, h, to));
                break;
            }
            case 5:
                same("off " + m + " " + w + " " + h, flag(is.off(m, w, h)), flag(due.off(m, w, h)));
                break;
            default: {
                int what = about(0, 3);
                same("told " + m + " " + what, is.told(m, what), due.told(m, what));
                tellFault();
                break;
            }
        }
    }

    private void drawSpan() {
        int m = aMachine();
        int w = aWave(m);
        int from = anHour();
        switch (random.nextInt(7)) {
            case 0: {
                int to = anEnd(from, 2000);
                boolean turned = either();
                boolean high = either();
                same("extreme " + m + " " + from + " " + to + " " + turned + " " + high,
                    is.extreme(m, from, to, turned, high), due.extreme(m, from, to, turned, high));
                break;
            }
            case 1: {
                int e = about(0, 5);
                int what = about(0, 1);
                same("bounds " + m + " " + from + " " + e + " " + what, is.bounds(m, from, e, what), due.bounds(m, from, e, what));
                break;
            }
            case 2: {
                long[] a = {about(-99999, 99999), about(-99999, 99999), about(0, 5), upTo(1),
                    either() ? NONE_ASKED : about(-1, 3), about(0, 12), about(0, 23), about(0, 23)};
                if (random.nextInt(4) != 0) {
                    a[0] = about(-2000, 1000);
                    a[1] = a[0] + upTo(1500);
                }
                same("ask " + java.util.Arrays.toString(a), flag(is.ask((int) a[0], (int) a[1], (int) a[2], a[3] == 1,
                    (int) a[4], (int) a[5], (int) a[6], (int) a[7])), flag(due.ask(a)));
                break;
            }
            case 3:
            case 4: {
                int to = anEnd(from, 2000);
                same("landing " + m + " " + from + " " + to, is.landing(m, from, to), due.landing(m, from, to));
                break;
            }
            case 5: {
                int to = anEnd(from, 48);
                same("spread " + m + " " + w + " " + from + " " + to, is.spread(m, w, from, to), due.spread(m, w, from, to));
                for (int what = -1; what <= 3; what++) {
                    same("spreadTold " + what, is.spreadTold(what), due.spreadTold(what));
                }
                break;
            }
            default: {
                int to = anEnd(from, 2000);
                int more = either() ? about(0, 99999) : about(0, 1000);
                same("compare " + from + " " + to + " " + more, is.compare(from, to, more), due.compare(from, to, more));
                break;
            }
        }
    }

    private static final int NONE_ASKED = -1;

    private void drawWheels() {
        int m = aMachine();
        int w = aWave(m);
        int h = anHour();
        int k = about(0, 5);
        switch (random.nextInt(6)) {
            case 0: {
                int couples = about(1, 2);
                same("train " + m + " " + w + " " + couples, is.train(m, w, couples), due.train(m, w, couples));
                same("trained " + k, is.trained(k), due.trained(k));
                break;
            }
            case 1: {
                int set = rarely() ? about(0, 63) : 1 + random.nextInt((1 << Math.max(1, due.waveCount(m))) - 1);
                int places = either() ? 99 : about(0, 99);
                int hours = either() ? random.nextInt(30) : h;
                same("share " + m + " " + set + " " + places + " " + hours, is.share(m, set, places, hours),
                    due.share(m, set, places, hours));
                for (int i = 0; i < 6; i++) {
                    same("shared " + i, is.shared(i), due.shared(i));
                }
                same("shared " + k, is.shared(k), due.shared(k));
                break;
            }
            case 2:
                same("worn " + m + " " + w + " " + k + " " + h, is.worn(m, w, k, h), due.worn(m, w, k, h));
                break;
            case 3: {
                int limit = either() ? about(1, 9999999) : about(1, 99999);
                same("lasts " + m + " " + limit, is.lasts(m, limit), due.lasts(m, limit));
                break;
            }
            case 4: {
                same("trade " + h, is.trade(h), due.trade(h));
                for (int what = -1; what <= 4; what++) {
                    same("traded " + what, is.traded(what), due.traded(what));
                }
                break;
            }
            default: {
                int t = about(0, 4);
                int many = about(1, 60);
                same("table " + m + " " + t + " " + h + " " + many, is.table(m, t, h, many), due.table(m, t, h, many));
                drawTable();
                break;
            }
        }
    }

    /** A TABLE in TRAY 4 that is right but perhaps for one place. */
    private void drawTable() {
        int m = random.nextInt(2);
        int from = rarely() ? 99980 + random.nextInt(21) : random.nextInt(300);
        int many = 1 + random.nextInt(5);
        same("tray", flag(is.tray(4, 1, many)), flag(due.tray(4, 1, many)));
        int bad = random.nextInt(8);
        for (int i = 0; i < many; i++) {
            int v = due.height(m, from + i, true) + (i == bad ? 1 : 0);
            same("write", flag(is.write(4, i, v)), flag(due.write(4, i, v)));
        }
        same("table " + m + " 4 " + from + " " + many, is.table(m, 4, from, many), due.table(m, 4, from, many));
    }

    private void drawDay() {
        int m = aMachine();
        int day = either() ? about(0, 10) : about(0, 4166);
        boolean high = either();
        boolean turned = either();
        int k = rarely() ? about(0, 12) : random.nextInt(3);
        switch (random.nextInt(5)) {
            case 0:
                same("waters " + m + " " + day + " " + high + " " + turned, is.waters(m, day, high, turned),
                    due.waters(m, day, high, turned));
                break;
            case 1:
                same("water " + m + " " + day + " " + high + " " + turned + " " + k, is.water(m, day, high, turned, k),
                    due.water(m, day, high, turned, k));
                break;
            case 2:
                same("range " + m + " " + day + " " + turned, is.range(m, day, turned), due.range(m, day, turned));
                break;
            case 3:
                same("gap " + m + " " + day + " " + turned + " " + k, is.gap(m, day, turned, k), due.gap(m, day, turned, k));
                break;
            default:
                drawObey();
                break;
        }
    }
}
