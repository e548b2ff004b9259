import java.math.BigInteger;
import java.util.ArrayList;
import java.util.Arrays;
import java.util.HashMap;
import java.util.HashSet;
import java.util.List;
import java.util.Map;
import java.util.Set;

/**
 * The document once more, with the plainest means of the Java library and no care for speed or room:
 * RandomRunsTest holds TideDiscs against it, call by call.
 */
final class PlainModel {
    static final int NONE = -1;
    private static final int[] COS = {
        12, 12, 10, 8, 6, 3, 0, -3, -6, -8, -10, -12, -12, -12, -10, -8, -6, -3, 0, 3, 6, 8, 10, 12
    };

    /** A fault of a text. */
    private static final class Fault extends Exception {
        private static final long serialVersionUID = 1L;
        final int kind;
        final int at;

        Fault(int kind, int at) {
            this.kind = kind;
            this.at = at;
        }
    }

    private record Token(char sort, String text, int at) {
        int number() {
            return Integer.parseInt(text);
        }
    }

    private static final class Disc {
        String name;
        int turns;
        int hours;
        int size;
        int at;
        int[] train;

        int place(long hour, boolean turned) {
            long gone = 24L * turns * hour / hours;
            if (turned && train != null) {
                gone = hour * driving(train).longValueExact() / driven(train).longValueExact();
            }
            return (int) ((gone + at) % 24);
        }

        Rational off(int[] wheels, long byHours) {
            Rational due = new Rational(BigInteger.valueOf(24L * turns * byHours), BigInteger.valueOf(hours));
            Rational is = new Rational(driving(wheels).multiply(BigInteger.valueOf(byHours)), driven(wheels));
            return due.minus(is).abs();
        }
    }

    private static BigInteger driving(int[] wheels) {
        return BigInteger.valueOf((long) wheels[0] * (wheels.length > 2 ? wheels[2] : 1));
    }

    private static BigInteger driven(int[] wheels) {
        return BigInteger.valueOf((long) wheels[1] * (wheels.length > 2 ? wheels[3] : 1));
    }

    record Rational(BigInteger top, BigInteger bottom) {
        Rational {
            BigInteger g = top.gcd(bottom);
            if (g.signum() != 0) {
                top = top.divide(g);
                bottom = bottom.divide(g);
            }
            if (bottom.signum() < 0) {
                top = top.negate();
                bottom = bottom.negate();
            }
        }

        static Rational of(long n) {
            return new Rational(BigInteger.valueOf(n), BigInteger.ONE);
        }

        Rational minus(Rational o) {
            return new Rational(top.multiply(o.bottom).subtract(o.top.multiply(bottom)), bottom.multiply(o.bottom));
        }

        Rational plus(Rational o) {
            return new Rational(top.multiply(o.bottom).add(o.top.multiply(bottom)), bottom.multiply(o.bottom));
        }

        Rational times(Rational o) {
            return new Rational(top.multiply(o.top), bottom.multiply(o.bottom));
        }

        Rational by(Rational o) {
            return new Rational(top.multiply(o.bottom), bottom.multiply(o.top));
        }

        Rational abs() {
            return new Rational(top.abs(), bottom);
        }

        boolean isZero() {
            return top.signum() == 0;
        }

        int compare(Rational o) {
            return top.multiply(o.bottom).compareTo(o.top.multiply(bottom));
        }

        long towardsZero() {
            return top.divide(bottom).longValueExact();
        }
    }

    private static final class Works {
        final List<Disc> discs = new ArrayList<>();
        final List<int[]> box = new ArrayList<>();
        Integer slack;
        Integer zero;

        int zeroHeight() {
            return zero == null ? 0 : 12 * zero;
        }

        int height(long hour, boolean turned) {
            int sum = zeroHeight();
            for (Disc d : discs) {
                sum += d.size * cos(d.place(hour, turned));
            }
            return sum;
        }
    }

    private static int cos(long place) {
        return COS[(int) Math.floorMod(place, 24L)];
    }

    /** A STEP with those inside it. */
    private static final class Step {
        String word;
        String test;
        int number;
        List<Step> inner;
    }

    private static final class Stop extends RuntimeException {
        private static final long serialVersionUID = 1L;
        final boolean left;

        Stop(boolean left) {
            super(null, null, false, false);
            this.left = left;
        }
    }

    // ---- state

    private int status = 0;
    private Rational fraction = Rational.of(0);
    private final long[][] trays = new long[5][];
    private final int[] sorts = new int[5];
    private byte[] tape = new byte[0];
    private int faultKind = NONE;
    private int faultPlace = NONE;
    private final Works[] works = {new Works(), new Works()};
    private int[] trained;
    private int[] shared;
    private int[] slip;
    private int[] near;
    private int[] led;
    private int[] spread;
    private long[] ask = {0, 0, 0, 0, NONE, 0, 0, 23};
    private int[] traded;
    private List<Step> program = new ArrayList<>();
    private long[] obeyed;
    private final List<Integer> marks = new ArrayList<>();

    private int no(int why) {
        status = why;
        return NONE;
    }

    private int ok(int value) {
        status = 0;
        return value;
    }

    private boolean flag(int why) {
        status = why;
        return why == 0;
    }

    int status() {
        return status;
    }

    long top() {
        return fraction.top().longValueExact();
    }

    long bottom() {
        return fraction.bottom().longValueExact();
    }

    // ---- TRAYS

    private static boolean in(long v, long least, long most) {
        return v >= least && v <= most;
    }

    boolean tray(int tray, int sort, int many) {
        if (!in(tray, 0, 4) || !in(sort, 0, 3)) {
            return flag(1);
        }
        if (many > 60) {
            return flag(5);
        }
        if (many < 0) {
            return flag(6);
        }
        trays[tray] = new long[many];
        sorts[tray] = sort;
        return flag(0);
    }

    private int placeStatus(int tray, int place) {
        if (!in(tray, 0, 4)) {
            return 1;
        }
        if (trays[tray] == null) {
            return 3;
        }
        return in(place, 0, trays[tray].length - 1) ? 0 : 4;
    }

    boolean write(int tray, int place, long v) {
        int s = placeStatus(tray, place);
        if (s == 0) {
            int bits = 8 << sorts[tray];
            BigInteger cut = BigInteger.valueOf(v).mod(BigInteger.ONE.shiftLeft(bits));
            if (cut.testBit(bits - 1)) {
                cut = cut.subtract(BigInteger.ONE.shiftLeft(bits));
            }
            trays[tray][place] = cut.longValueExact();
        }
        return flag(s);
    }

    long read(int tray, int place) {
        int s = placeStatus(tray, place);
        if (s != 0) {
            return no(s);
        }
        status = 0;
        return trays[tray][place];
    }

    boolean pour(int tray, int i, int to, int j, int many) {
        if (!in(tray, 0, 4) || !in(to, 0, 4)) {
            return flag(1);
        }
        if (trays[tray] == null || trays[to] == null) {
            return flag(3);
        }
        if (sorts[tray] != sorts[to]) {
            return flag(11);
        }
        if (many < 0) {
            return flag(6);
        }
        if (i < 0 || j < 0 || (long) i + many > trays[tray].length || (long) j + many > trays[to].length) {
            return flag(4);
        }
        long[] was = trays[tray].clone();
        for (int k = 0; k < many; k++) {
            trays[to][j + k] = was[i + k];
        }
        return flag(0);
    }

    // ---- texts

    int feed(int a, int b, int c, int d, int e) {
        if (tape.length > 580) {
            return NONE;
        }
        byte[] longer = Arrays.copyOf(tape, tape.length + 20);
        int[] all = {a, b, c, d, e};
        for (int i = 0; i < 20; i++) {
            longer[tape.length + i] = (byte) (all[i / 4] >>> 24 - 8 * (i % 4));
        }
        tape = longer;
        return tape.length;
    }

    /** All TOKENS up to the first thing that is none (sort '?'), and the end (sort '.'). */
    private static List<Token> tokens(String text) {
        List<Token> all = new ArrayList<>();
        int i = 0;
        while (i < text.length()) {
            char c = text.charAt(i);
            if (c == 10 || c == 32) {
                i++;
                continue;
            }
            int j = i;
            if (c >= 'a' && c <= 'z') {
                while (j < text.length() && text.charAt(j) >= 'a' && text.charAt(j) <= 'z') {
                    j++;
                }
                all.add(new Token('w', text.substring(i, j), i));
            } else if (c >= '0' && c <= '9') {
                while (j < text.length() && text.charAt(j) >= '0' && text.charAt(j) <= '9') {
                    j++;
                }
                all.add(new Token(j - i <= 4 ? 'n' : '?', text.substring(i, j), i));
            } else {
                j++;
                all.add(new Token(c == ';' ? ';' : '?', text.substring(i, j), i));
            }
            i = j;
        }
        all.add(new Token('.', "", text.length()));
        return all;
    }

    private static final Set<String> KEPT =
        new HashSet<>(Arrays.asList("wave", "turns", "in", "size", "at", "train", "box", "of", "slack", "zero"));

    /** Goes along the TOKENS. */
    private static final class Along {
        final List<Token> all;
        int next = 0;

        Along(String text) {
            all = tokens(text);
        }

        Token look() {
            return all.get(next);
        }

        Token want(char sort, String word) throws Fault {
            Token t = look();
            if (t.sort() == '?') {
                throw new Fault(1, t.at());
            }
            if (t.sort() != sort || word != null && !t.text().equals(word)) {
                throw new Fault(2, t.at());
            }
            next++;
            return t;
        }

        int number(int least, int most) throws Fault {
            Token t = want('n', null);
            if (!in(t.number(), least, most)) {
                throw new Fault(4, t.at());
            }
            return t.number();
        }

        boolean is(String word) {
            return look().sort() == 'w' && look().text().equals(word);
        }
    }

    private static Works parseWorks(String text) throws Fault {
        Works w = new Works();
        Along a = new Along(text);
        while (a.look().sort() != '.') {
            Token t = a.want('w', null);
            switch (t.text()) {
                case "wave" -> parseWave(w, a);
                case "box" -> {
                    if (w.box.size() == 10) {
                        throw new Fault(6, t.at());
                    }
                    int many = a.number(0, 9);
                    a.want('w', "of");
                    int at = a.look().at();
                    int teeth = a.number(5, 200);
                    for (int[] kind : w.box) {
                        if (kind[1] == teeth) {
                            throw new Fault(6, at);
                        }
                    }
                    w.box.add(new int[] {many, teeth});
                    a.want(';', null);
                }
                case "slack" -> {
                    if (w.slack != null) {
                        throw new Fault(5, t.at());
                    }
                    w.slack = a.number(0, 99);
                    a.want(';', null);
                }
                case "zero" -> {
                    if (w.zero != null) {
                        throw new Fault(5, t.at());
                    }
                    w.zero = a.number(0, 99);
                    a.want(';', null);
                }
                default -> throw new Fault(2, t.at());
            }
        }
        return w;
    }

    private static void parseWave(Works w, Along a) throws Fault {
        Token name = a.want('w', null);
        if (name.text().length() > 8 || KEPT.contains(name.text())) {
            throw new Fault(2, name.at());
        }
        for (Disc d : w.discs) {
            if (d.name.equals(name.text())) {
                throw new Fault(3, name.at());
            }
        }
        if (w.discs.size() == 6) {
            throw new Fault(6, name.at());
        }
        Disc d = new Disc();
        d.name = name.text();
        a.want('w', "turns");
        d.turns = a.number(1, 9999);
        a.want('w', "in");
        d.hours = a.number(1, 9999);
        Set<String> had = new HashSet<>();
        while (a.look().sort() == 'w') {
            Token t = a.want('w', null);
            if (!Arrays.asList("size", "at", "train").contains(t.text())) {
                throw new Fault(2, t.at());
            }
            if (!had.add(t.text())) {
                throw new Fault(5, t.at());
            }
            if (t.text().equals("size")) {
                d.size = a.number(0, 99);
            } else if (t.text().equals("at")) {
                d.at = a.number(0, 23);
            } else {
                int one = a.number(5, 200);
                int two = a.number(5, 200);
                if (a.look().sort() == 'n') {
                    int three = a.number(5, 200);
                    d.train = new int[] {one, two, three, a.number(5, 200)};
                } else {
                    d.train = new int[] {one, two};
                }
            }
        }
        a.want(';', null);
        w.discs.add(d);
    }

    private String cutTape(int n) {
        StringBuilder text = new StringBuilder();
        for (int i = 0; i < n; i++) {
            text.append((char) (tape[i] & 255));
        }
        tape = new byte[0];
        return text.toString();
    }

    int machine(int machine, int n) {
        if (!in(machine, 0, 1)) {
            return no(2);
        }
        if (!in(n, 0, tape.length)) {
            return no(5);
        }
        try {
            works[machine] = parseWorks(cutTape(n));
        } catch (Fault f) {
            faultKind = f.kind;
            faultPlace = f.at;
            return no(10);
        }
        faultKind = 0;
        faultPlace = NONE;
        return ok(works[machine].discs.size());
    }

    int fault(int what) {
        return what == 0 ? faultKind : what == 1 ? faultPlace : NONE;
    }

    private Works machineOf(int machine) {
        return in(machine, 0, 1) ? works[machine] : null;
    }

    private Disc discOf(int machine, int wave) {
        Works w = machineOf(machine);
        return w != null && in(wave, 0, w.discs.size() - 1) ? w.discs.get(wave) : null;
    }

    /** No call of the document: RandomRunsTest draws by it. */
    int waveCount(int machine) {
        return in(machine, 0, 1) ? works[machine].discs.size() : 0;
    }

    int told(int machine, int what) {
        Works w = machineOf(machine);
        if (w == null) {
            return no(2);
        }
        return switch (what) {
            case 0 -> ok(w.discs.size());
            case 1 -> ok(w.box.size());
            case 2 -> ok(w.slack == null ? 0 : w.slack);
            case 3 -> ok(w.zero == null ? 0 : w.zero);
            default -> no(5);
        };
    }

    int wave(int machine, int wave, int what) {
        Disc d = discOf(machine, wave);
        if (d == null) {
            return no(2);
        }
        if (!in(what, 0, 7)) {
            return no(5);
        }
        if (what < 4) {
            return ok(new int[] {d.turns, d.hours, d.size, d.at}[what]);
        }
        if (d.train == null) {
            return no(8);
        }
        return ok(what - 4 < d.train.length ? d.train[what - 4] : 1);
    }

    boolean set(int machine, int wave, int size, int at) {
        Disc d = discOf(machine, wave);
        if (d == null) {
            return flag(2);
        }
        if (!in(size, 0, 99) || !in(at, 0, 23)) {
            return flag(5);
        }
        d.size = size;
        d.at = at;
        return flag(0);
    }

    // ---- PLACES, HEIGHTS

    private static boolean isHour(long h) {
        return in(h, 0, 99999);
    }

    int place(int machine, int wave, int hour, boolean turned) {
        Disc d = discOf(machine, wave);
        if (d == null) {
            return no(2);
        }
        return isHour(hour) ? ok(d.place(hour, turned)) : no(5);
    }

    int height(int machine, int hour, boolean turned) {
        Works w = machineOf(machine);
        if (w == null) {
            return no(2);
        }
        return isHour(hour) ? ok(w.height(hour, turned)) : no(5);
    }

    int pointer(int machine, int from, int hour) {
        Works w = machineOf(machine);
        if (w == null) {
            return no(2);
        }
        if (!isHour(from) || !isHour(hour) || from > hour || hour - from > 2000) {
            return no(5);
        }
        int slack = w.slack == null ? 0 : w.slack;
        int p = w.height(from, true);
        for (int h = from + 1; h <= hour; h++) {
            int now = w.height(h, true);
            if (now - p > slack) {
                p = now - slack;
            } else if (p - now > slack) {
                p = now + slack;
            }
        }
        return ok(p);
    }

    boolean off(int machine, int wave, int hours) {
        Disc d = discOf(machine, wave);
        if (d == null) {
            return flag(2);
        }
        if (!isHour(hours)) {
            return flag(5);
        }
        if (d.train == null) {
            return flag(8);
        }
        fraction = d.off(d.train, hours);
        return flag(0);
    }

    /** All rows of so many KINDS out of the BOX, in their order. */
    private static List<int[]> rows(Works w, int length) {
        List<int[]> all = new ArrayList<>();
        int n = w.box.size();
        int count = 1;
        for (int i = 0; i < length; i++) {
            count *= n;
        }
        for (int code = 0; code < count; code++) {
            int[] row = new int[length];
            int[] used = new int[n];
            int rest = code;
            boolean fine = true;
            for (int i = length - 1; i >= 0; i--) {
                row[i] = rest % n;
                rest /= n;
                fine &= ++used[row[i]] <= w.box.get(row[i])[0];
            }
            if (fine) {
                all.add(row);
            }
        }
        return all;
    }

    private static int[] teeth(Works w, int[] kinds) {
        return Arrays.stream(kinds).map(k -> w.box.get(k)[1]).toArray();
    }

    int train(int machine, int wave, int couples) {
        Disc d = discOf(machine, wave);
        if (d == null) {
            return no(2);
        }
        if (!in(couples, 1, 2)) {
            return no(5);
        }
        int[] best = null;
        Rational bestOff = null;
        for (int[] row : rows(works[machine], 2 * couples)) {
            int[] t = teeth(works[machine], row);
            Rational off = d.off(t, 24);
            int c = best == null ? -1 : off.compare(bestOff);
            if (c < 0 || c == 0 && Arrays.stream(t).sum() < Arrays.stream(best).sum()) {
                best = t;
                bestOff = off;
            }
        }
        if (best == null) {
            return no(9);
        }
        trained = best;
        fraction = bestOff;
        return ok(Arrays.stream(best).sum());
    }

    int trained(int k) {
        return trained != null && in(k, 0, trained.length - 1) ? ok(trained[k]) : no(8);
    }

    int share(int machine, int waves, int places, int hours) {
        Works w = machineOf(machine);
        if (w == null) {
            return no(2);
        }
        List<Disc> discs = new ArrayList<>();
        for (int i = 0; i < 32; i++) {
            if ((waves >>> i & 1) != 0) {
                if (i >= w.discs.size()) {
                    return no(2);
                }
                discs.add(w.discs.get(i));
            }
        }
        if (!in(discs.size(), 1, 3) || !in(places, 0, 99) || !isHour(hours)) {
            return no(5);
        }
        int n = w.box.size();
        boolean[][][] fit = new boolean[discs.size()][n][n];
        for (int i = 0; i < discs.size(); i++) {
            for (int a = 0; a < n; a++) {
                for (int b = 0; b < n; b++) {
                    Rational off = discs.get(i).off(new int[] {w.box.get(a)[1], w.box.get(b)[1]}, hours);
                    fit[i][a][b] = off.compare(Rational.of(places)) <= 0;
                }
            }
        }
        int[] best = null;
        for (int[] row : rows(w, 2 * discs.size())) {
            boolean all = true;
            for (int i = 0; i < discs.size(); i++) {
                all &= fit[i][row[2 * i]][row[2 * i + 1]];
            }
            if (all) {
                int[] t = teeth(w, row);
                if (best == null || Arrays.stream(t).sum() < Arrays.stream(best).sum()) {
                    best = t;
                }
            }
        }
        if (best == null) {
            return no(9);
        }
        shared = best;
        return ok(Arrays.stream(best).sum());
    }

    int shared(int k) {
        return shared != null && in(k, 0, shared.length - 1) ? ok(shared[k]) : no(8);
    }

    // ---- the GAUGE

    private int gaugeStatus(boolean there, boolean numbers, int many, int... of) {
        for (int t : of) {
            if (!in(t, 0, 4)) {
                return 1;
            }
        }
        if (!there) {
            return 2;
        }
        for (int t : of) {
            if (trays[t] == null) {
                return 3;
            }
        }
        if (!in(many, 1, 24) || !numbers) {
            return 5;
        }
        for (int t : of) {
            if (trays[t].length < many) {
                return 4;
            }
        }
        for (int k = 0; k < of.length; k += 2) {
            for (int i = 0; i < many; i++) {
                if (!isHour(trays[of[k]][i]) || !in(trays[of[k + 1]][i], -999, 1000)) {
                    return 5;
                }
            }
        }
        return 0;
    }

    /** Gauss and Jordan over the normal equations; null if there is no single answer. */
    private Rational[] fit(Disc one, Disc other, int hours, int read, int many) {
        int n = one == other ? 3 : 5;
        Rational[][] m = new Rational[n][n + 1];
        for (Rational[] r : m) {
            Arrays.fill(r, Rational.of(0));
        }
        for (int i = 0; i < many; i++) {
            long v = trays[read][i];
            if (v == 1000) {
                continue;
            }
            long p = Math.floorMod(one.place(trays[hours][i], false) - one.at, 24);
            long q = Math.floorMod(other.place(trays[hours][i], false) - other.at, 24);
            long[] x = {1, cos(p), cos(p + 18), cos(q), cos(q + 18)};
            for (int r = 0; r < n; r++) {
                for (int c = 0; c < n; c++) {
                    m[r][c] = m[r][c].plus(Rational.of(x[r] * x[c]));
                }
                m[r][n] = m[r][n].plus(Rational.of(x[r] * v));
            }
        }
        for (int c = 0; c < n; c++) {
            int pivot = c;
            while (pivot < n && m[pivot][c].isZero()) {
                pivot++;
            }
            if (pivot == n) {
                return null;
            }
            Rational[] swap = m[c];
            m[c] = m[pivot];
            m[pivot] = swap;
            for (int r = 0; r < n; r++) {
                if (r != c && !m[r][c].isZero()) {
                    Rational f = m[r][c].by(m[c][c]);
                    for (int k = c; k <= n; k++) {
                        m[r][k] = m[r][k].minus(f.times(m[c][k]));
                    }
                }
            }
        }
        Rational[] answer = new Rational[n];
        for (int c = 0; c < n; c++) {
            answer[c] = m[c][n].by(m[c][c]);
        }
        return answer;
    }

    boolean settings(int machine, int one, int other, int hours, int read, int many, int what) {
        Disc a = discOf(machine, one);
        Disc b = discOf(machine, other);
        int s = gaugeStatus(a != null && b != null, in(what, 0, one == other ? 2 : 4), many, hours, read);
        if (s != 0) {
            return flag(s);
        }
        Rational[] parts = fit(a, b, hours, read, many);
        if (parts == null) {
            return flag(9);
        }
        fraction = parts[what];
        return flag(0);
    }

    int changed(int machine, int one, int other, int[] trayNumbers, int many, int more) {
        Disc a = discOf(machine, one);
        Disc b = discOf(machine, other);
        int s = gaugeStatus(a != null && b != null, in(more, 0, 999), many, trayNumbers);
        if (s != 0) {
            return no(s);
        }
        Rational[] first = fit(a, b, trayNumbers[0], trayNumbers[1], many);
        Rational[] then = fit(a, b, trayNumbers[2], trayNumbers[3], many);
        if (first == null || then == null) {
            return no(9);
        }
        int set = 0;
        for (int part = 1; part < first.length; part++) {
            if (Math.abs(first[part].towardsZero() - then[part].towardsZero()) > more) {
                set |= 1 << (part < 3 ? one : other);
            }
        }
        return ok(set);
    }

    private long miss(int read, int i, long is) {
        return trays[read][i] == 1000 ? 0 : Math.abs(trays[read][i] - is);
    }

    int slipped(int machine, int hours, int read, int many, int what) {
        Works w = machineOf(machine);
        int s = gaugeStatus(w != null, in(what, 0, 1), many, hours, read);
        if (s != 0) {
            return no(s);
        }
        int most = what == 0 ? 5 : 50;
        long[] best = null;
        Map<Long, Integer> known = new HashMap<>();
        for (int d = -most; d <= most; d++) {
            for (int k = 0; k < (d == 0 ? 1 : many); k++) {
                long sum = 0;
                for (int i = 0; i < many; i++) {
                    int by = i < k ? 0 : d;
                    long hour = trays[hours][i] + (what == 0 ? by : 0);
                    int h = known.computeIfAbsent(Math.max(0, hour), x -> w.height(x, false)) / 12;
                    sum += miss(read, i, h + (what == 1 ? by : 0));
                }
                long[] now = {sum, Math.abs(d), d, k};
                if (best == null || Arrays.compare(now, best) < 0) {
                    best = now;
                }
            }
        }
        slip = new int[] {(int) best[3], (int) best[2]};
        return ok(slip[0]);
    }

    int slip() {
        return slip == null ? no(8) : ok(slip[1]);
    }

    int neighbour(int machine, int hours, int read, int many) {
        Works w = machineOf(machine);
        int s = gaugeStatus(w != null, true, many, hours, read);
        if (s != 0) {
            return no(s);
        }
        int[][] places = new int[many][w.discs.size()];
        for (int i = 0; i < many; i++) {
            for (int j = 0; j < w.discs.size(); j++) {
                places[i][j] = w.discs.get(j).place(trays[hours][i], false);
            }
        }
        long best = Long.MAX_VALUE;
        for (int ratio = 1; ratio <= 24; ratio++) {
            for (int lag = 0; lag < 24; lag++) {
                long sum = 0;
                for (int i = 0; i < many; i++) {
                    int h = 0;
                    for (int j = 0; j < w.discs.size(); j++) {
                        h += w.discs.get(j).size * cos(places[i][j] - lag);
                    }
                    sum += miss(read, i, h * ratio / 144);
                }
                if (sum < best) {
                    best = sum;
                    near = new int[] {ratio, lag};
                }
            }
        }
        return ok(near[0]);
    }

    int lag() {
        return near == null ? no(8) : ok(near[1]);
    }

    private long ledSum(Works w, int hours, int read, int many) {
        long sum = 0;
        for (int i = 0; i < many; i++) {
            sum += miss(read, i, w.height(trays[hours][i], true) / 12);
        }
        return sum;
    }

    int led(int machine, int hours, int read, int many) {
        Works w = machineOf(machine);
        int s = gaugeStatus(w != null, true, many, hours, read);
        if (s != 0) {
            return no(s);
        }
        long best = ledSum(w, hours, read, many);
        led = new int[] {NONE, 0, 0};
        for (int i = 0; i < w.discs.size(); i++) {
            int[] train = w.discs.get(i).train;
            for (int k = 0; train != null && k < train.length; k++) {
                for (int more = 1; more >= 0; more--) {
                    train[k] += more == 1 ? 1 : -1;
                    long sum = ledSum(w, hours, read, many);
                    train[k] -= more == 1 ? 1 : -1;
                    if (sum < best) {
                        best = sum;
                        led = new int[] {i, k, more};
                    }
                }
            }
        }
        return ok(led[0]);
    }

    int wheel(int what) {
        if (!in(what, 0, 1)) {
            return no(5);
        }
        return led == null || led[0] == NONE ? no(8) : ok(led[1 + what]);
    }

    // ---- spans

    private static boolean isSpan(int from, int to, int most) {
        return isHour(from) && isHour(to) && from <= to && to - from + 1 <= most;
    }

    int extreme(int machine, int from, int to, boolean turned, boolean high) {
        Works w = machineOf(machine);
        if (w == null) {
            return no(2);
        }
        if (!isSpan(from, to, 2000)) {
            return no(5);
        }
        int best = from;
        int bestHeight = w.height(from, turned);
        for (int h = from; h <= to; h++) {
            int now = w.height(h, turned);
            if (high && now > bestHeight || !high && now < bestHeight) {
                best = h;
                bestHeight = now;
            }
        }
        return ok(best);
    }

    private static int bound(Works w, int hour, int e, int what) {
        int sum = w.zeroHeight();
        for (Disc d : w.discs) {
            int[] all = new int[2 * e + 1];
            for (int i = 0; i <= 2 * e; i++) {
                all[i] = cos(d.place(hour, false) + i - e);
            }
            Arrays.sort(all);
            sum += d.size * (what == 0 ? all[0] : all[2 * e]);
        }
        return sum;
    }

    int bounds(int machine, int hour, int e, int what) {
        Works w = machineOf(machine);
        if (w == null) {
            return no(2);
        }
        return isHour(hour) && in(e, 0, 5) && in(what, 0, 1) ? ok(bound(w, hour, e, what)) : no(5);
    }

    boolean ask(long[] asked) {
        if (asked[4] < NONE) {
            return flag(2);
        }
        boolean fine = in(asked[0], -99999, 99999) && in(asked[1], -99999, 99999) && asked[0] <= asked[1]
            && in(asked[2], 0, 5) && in(asked[5], 0, 12) && in(asked[6], 0, 23) && in(asked[7], 0, 23);
        if (!fine) {
            return flag(5);
        }
        ask = asked;
        return flag(0);
    }

    int landing(int machine, int from, int to) {
        Works w = machineOf(machine);
        if (w == null || ask[4] >= w.discs.size()) {
            return no(2);
        }
        if (!isSpan(from, to, 2000)) {
            return no(5);
        }
        Set<Integer> times = new HashSet<>();
        for (int t = (int) ask[6]; ; t = (t + 1) % 24) {
            times.add(t);
            if (t == ask[7]) {
                break;
            }
        }
        for (int h = from; h <= to; h++) {
            boolean good = times.contains(h % 24);
            good = good && bound(w, h, (int) ask[2], 0) >= ask[0] && bound(w, h, (int) ask[2], 1) <= ask[1];
            good = good && (ask[3] == 0 || w.height(h + 1, false) > w.height(h, false));
            if (good && ask[4] != NONE) {
                int p = w.discs.get((int) ask[4]).place(h, false);
                good = Math.min(Math.floorMod(p - 12, 24), Math.floorMod(12 - p, 24)) <= ask[5];
            }
            if (good) {
                return ok(h);
            }
        }
        return no(8);
    }

    int spread(int machine, int wave, int from, int to) {
        Works w = machineOf(machine);
        if (w == null || discOf(machine, wave) == null) {
            return no(2);
        }
        if (!isSpan(from, to, 48)) {
            return no(5);
        }
        int n = to - from + 1;
        int[][] gone = new int[w.discs.size()][n];
        int[] was = new int[n];
        for (int i = 0; i < n; i++) {
            was[i] = w.height(from + i, false);
            for (int j = 0; j < w.discs.size(); j++) {
                gone[j][i] = w.discs.get(j).place(from + i, false) - w.discs.get(j).at;
            }
        }
        int[] rest = new int[n];
        int none = 0;
        for (int i = 0; i < n; i++) {
            Disc d = w.discs.get(wave);
            none += Math.abs(d.size * cos(gone[wave][i] + d.at));
            rest[i] = was[i] - d.size * cos(gone[wave][i] + d.at);
        }
        spread = new int[] {NONE, 0, 0, none};
        for (int j = 0; j < w.discs.size(); j++) {
            Disc d = w.discs.get(j);
            for (int size = 0; size < 100 && j != wave; size++) {
                for (int at = 0; at < 24; at++) {
                    int sum = 0;
                    for (int i = 0; i < n; i++) {
                        int is = rest[i] - d.size * cos(gone[j][i] + d.at) + size * cos(gone[j][i] + at);
                        sum += Math.abs(was[i] - is);
                    }
                    if (sum < spread[3]) {
                        spread = new int[] {j, size, at, sum};
                    }
                }
            }
        }
        return ok(spread[0]);
    }

    int spreadTold(int what) {
        if (!in(what, 0, 2)) {
            return no(5);
        }
        return spread == null || what < 2 && spread[0] == NONE ? no(8) : ok(spread[what + 1]);
    }

    int compare(int from, int to, int more) {
        if (!isSpan(from, to, 2000) || !in(more, 0, 99999)) {
            return no(5);
        }
        for (int h = from; h <= to; h++) {
            if (Math.abs(works[0].height(h, true) - works[1].height(h, true)) > more) {
                return ok(h);
            }
        }
        return ok(NONE);
    }

    // ---- DAYS, wheels

    private static boolean isWater(Works w, int hour, boolean high, boolean turned) {
        int sign = high ? 1 : -1;
        int here = sign * w.height(hour, turned);
        if (hour == 0 || here <= sign * w.height(hour - 1, turned)) {
            return false;
        }
        for (int h = hour + 1; h <= 100100; h++) {
            int then = sign * w.height(h, turned);
            if (then != here) {
                return then < here;
            }
        }
        return false;
    }

    private static List<Integer> watersOf(Works w, int day, boolean high, boolean turned) {
        List<Integer> all = new ArrayList<>();
        for (int h = 24 * day; h < 24 * day + 24 && h <= 99999; h++) {
            if (isWater(w, h, high, turned)) {
                all.add(h);
            }
        }
        return all;
    }

    int waters(int machine, int day, boolean high, boolean turned) {
        Works w = machineOf(machine);
        if (w == null) {
            return no(2);
        }
        return in(day, 0, 4166) ? ok(watersOf(w, day, high, turned).size()) : no(5);
    }

    int water(int machine, int day, boolean high, boolean turned, int k) {
        Works w = machineOf(machine);
        if (w == null) {
            return no(2);
        }
        if (!in(day, 0, 4166)) {
            return no(5);
        }
        List<Integer> all = watersOf(w, day, high, turned);
        return in(k, 0, all.size() - 1) ? ok(all.get(k)) : no(8);
    }

    int range(int machine, int day, boolean turned) {
        Works w = machineOf(machine);
        if (w == null) {
            return no(2);
        }
        if (!in(day, 0, 4166)) {
            return no(5);
        }
        List<Integer> heights = new ArrayList<>();
        for (int h = 24 * day; h < 24 * day + 24 && h <= 99999; h++) {
            heights.add(w.height(h, turned));
        }
        heights.sort(null);
        return ok(heights.get(heights.size() - 1) - heights.get(0));
    }

    int gap(int machine, int day, boolean turned, int k) {
        Works w = machineOf(machine);
        if (w == null) {
            return no(2);
        }
        if (!in(day, 0, 4166)) {
            return no(5);
        }
        List<Integer> all = watersOf(w, day, true, turned);
        if (!in(k, 0, all.size() - 1)) {
            return no(8);
        }
        for (int by = 1; by <= 200 && all.get(k) + by <= 99999; by++) {
            if (isWater(w, all.get(k) + by, true, turned)) {
                return ok(by);
            }
        }
        return no(8);
    }

    private static long wear(int[] train, int k, int hours) {
        Rational turned = new Rational(BigInteger.valueOf(hours), BigInteger.valueOf(24));
        if (k >= 1) {
            turned = turned.times(Rational.of(train[0])).by(Rational.of(train[1]));
        }
        if (k == 3) {
            turned = turned.times(Rational.of(train[2])).by(Rational.of(train[3]));
        }
        return turned.times(Rational.of(train[k])).towardsZero();
    }

    int worn(int machine, int wave, int k, int hours) {
        Disc d = discOf(machine, wave);
        if (d == null || !in(k, 0, 3)) {
            return no(2);
        }
        if (!isHour(hours)) {
            return no(5);
        }
        return d.train == null || k >= d.train.length ? no(8) : ok((int) wear(d.train, k, hours));
    }

    private static boolean isWorn(Works w, int limit, int hour) {
        for (Disc d : w.discs) {
            for (int k = 0; d.train != null && k < d.train.length; k++) {
                if (wear(d.train, k, hour) >= limit) {
                    return true;
                }
            }
        }
        return false;
    }

    int lasts(int machine, int limit) {
        Works w = machineOf(machine);
        if (w == null) {
            return no(2);
        }
        if (!in(limit, 1, 9999999)) {
            return no(5);
        }
        int low = 0;
        int high = 100000;
        while (low < high) {
            int middle = (low + high) / 2;
            if (isWorn(w, limit, middle)) {
                high = middle;
            } else {
                low = middle + 1;
            }
        }
        return low > 99999 ? no(8) : ok(low);
    }

    private long allOff(int hours) {
        long sum = 0;
        for (Works w : works) {
            for (Disc d : w.discs) {
                if (d.train != null) {
                    sum += d.off(d.train, hours).times(Rational.of(1000)).towardsZero();
                }
            }
        }
        return sum;
    }

    long trade(int hours) {
        if (!isHour(hours)) {
            return no(5);
        }
        long best = allOff(hours);
        traded = null;
        for (int i = 0; i < works[0].discs.size(); i++) {
            int[] mine = works[0].discs.get(i).train;
            for (int k = 0; mine != null && k < mine.length; k++) {
                for (int j = 0; j < works[1].discs.size(); j++) {
                    int[] yours = works[1].discs.get(j).train;
                    for (int l = 0; yours != null && l < yours.length; l++) {
                        swap(mine, k, yours, l);
                        long sum = allOff(hours);
                        swap(mine, k, yours, l);
                        if (sum < best) {
                            best = sum;
                            traded = new int[] {i, k, j, l};
                        }
                    }
                }
            }
        }
        status = 0;
        return best;
    }

    private static void swap(int[] a, int i, int[] b, int j) {
        int t = a[i];
        a[i] = b[j];
        b[j] = t;
    }

    int traded(int what) {
        if (!in(what, 0, 3)) {
            return no(5);
        }
        return traded == null ? no(8) : ok(traded[what]);
    }

    // ---- ORDERS

    private static final List<String> STEPS = Arrays.asList("go", "until", "mark", "read", "loop", "when");

    private int stepCount;

    private List<Step> parseSteps(Along a, int depth) throws Fault {
        List<Step> all = new ArrayList<>();
        while (true) {
            if (depth == 0 && a.look().sort() == '.') {
                return all;
            }
            if (depth > 0 && a.is("end")) {
                a.want('w', "end");
                a.want(';', null);
                return all;
            }
            Token t = a.want('w', null);
            if (!STEPS.contains(t.text())) {
                throw new Fault(2, t.at());
            }
            boolean opens = t.text().equals("loop") || t.text().equals("when");
            if (opens && depth == 3) {
                throw new Fault(5, t.at());
            }
            if (++stepCount > 40) {
                throw new Fault(6, t.at());
            }
            Step s = new Step();
            s.word = t.text();
            switch (s.word) {
                case "go" -> s.number = a.number(0, 9999);
                case "loop" -> s.number = a.number(1, 9);
                case "until", "when" -> parseTest(a, s);
                default -> { }
            }
            a.want(';', null);
            if (opens) {
                s.inner = parseSteps(a, depth + 1);
            }
            all.add(s);
        }
    }

    private static void parseTest(Along a, Step s) throws Fault {
        Token t = a.want('w', null);
        s.test = t.text();
        if (s.word.equals("until") && (s.test.equals("high") || s.test.equals("low"))) {
            return;
        }
        if (!s.test.equals("above") && !s.test.equals("below")) {
            throw new Fault(2, t.at());
        }
        boolean less = a.is("less");
        if (less) {
            a.next++;
        }
        s.number = a.number(0, 9999) * (less ? -1 : 1);
    }

    int orders(int n) {
        if (!in(n, 0, Math.min(300, tape.length))) {
            return no(5);
        }
        try {
            stepCount = 0;
            program = parseSteps(new Along(cutTape(n)), 0);
        } catch (Fault f) {
            faultKind = f.kind;
            faultPlace = f.at;
            return no(10);
        }
        faultKind = 0;
        faultPlace = NONE;
        return ok(countSteps(program));
    }

    private static int countSteps(List<Step> steps) {
        int count = 0;
        for (Step s : steps) {
            count += 1 + (s.inner == null ? 0 : countSteps(s.inner));
        }
        return count;
    }

    private int hour;
    private int done;
    private long register;
    private boolean over;

    int obey(int machine, int from) {
        Works w = machineOf(machine);
        if (w == null) {
            return no(2);
        }
        if (!isHour(from)) {
            return no(5);
        }
        hour = from;
        done = 0;
        register = 0;
        over = false;
        marks.clear();
        boolean left = false;
        try {
            run(program, w);
        } catch (Stop stop) {
            left = stop.left;
        }
        obeyed = new long[] {done, register, marks.size(), left ? 1 : 0};
        return ok(hour);
    }

    private void run(List<Step> steps, Works w) {
        for (Step s : steps) {
            if (over || done == 200) {
                throw new Stop(true);
            }
            done++;
            switch (s.word) {
                case "go" -> hour += s.number;
                case "mark" -> {
                    if (marks.size() < 30) {
                        marks.add(hour);
                    }
                }
                case "read" -> register += w.height(hour, true);
                case "loop" -> {
                    for (int i = 0; i < s.number; i++) {
                        run(s.inner, w);
                    }
                }
                case "when" -> {
                    if (is(s, w)) {
                        run(s.inner, w);
                    }
                }
                default -> {
                    do {
                        hour++;
                    } while (hour <= 99999 && !is(s, w));
                }
            }
            if (hour > 99999) {
                hour = 99999;
                over = true;
            }
        }
    }

    private boolean is(Step s, Works w) {
        return switch (s.test) {
            case "high" -> isWater(w, hour, true, true);
            case "low" -> isWater(w, hour, false, true);
            case "above" -> w.height(hour, true) > s.number;
            default -> w.height(hour, true) < s.number;
        };
    }

    long obeyed(int what) {
        if (!in(what, 0, 3)) {
            return no(5);
        }
        if (obeyed == null) {
            return no(8);
        }
        status = 0;
        return obeyed[what];
    }

    int marked(int k) {
        return obeyed != null && in(k, 0, marks.size() - 1) ? ok(marks.get(k)) : no(8);
    }

    int table(int machine, int tray, int from, int many) {
        if (!in(tray, 0, 4)) {
            return no(1);
        }
        Works w = machineOf(machine);
        if (w == null) {
            return no(2);
        }
        if (trays[tray] == null) {
            return no(3);
        }
        if (!in(many, 1, 60) || !isHour(from) || !isHour((long) from + many - 1)) {
            return no(5);
        }
        if (trays[tray].length < many) {
            return no(4);
        }
        for (int i = 0; i < many; i++) {
            if (trays[tray][i] != w.height(from + i, true)) {
                return ok(i);
            }
        }
        return ok(NONE);
    }
}
