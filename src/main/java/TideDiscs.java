/** Machines of discs that sum waves for a harbour; the document is shared/DOC.md, its words in capitals are used here. */
public final class TideDiscs {
    public static final int NONE = -1;

    private static final int FINE = 0;
    private static final int NO_TRAY = 1;
    private static final int NO_MACHINE = 2;
    private static final int MISSING = 3;
    private static final int NO_PLACE = 4;
    private static final int BAD_NUMBER = 5;
    private static final int BELOW_ZERO = 6;
    private static final int THERE_IS_NONE = 8;
    private static final int CANT_BE = 9;
    private static final int FAULTY = 10;
    private static final int UNLIKE_SORTS = 11;

    private static final int MOST_BYTES = 600;
    private static final int MOST_ORDER_BYTES = 300;
    private static final int FED_BYTES = 20;
    private static final int TRAYS = 5;
    private static final int SORTS = 4;
    private static final int MOST_IN_TRAY = 60;
    private static final int MOST_WAVES = 6;
    private static final int WHEELS = 4;
    private static final int MOST_KINDS = 10;
    private static final int MOST_SHARERS = 3;
    private static final int MOST_READINGS = 24;
    private static final int MOST_UNKNOWNS = 5;
    private static final int GAP_READ = 1000;
    private static final int LAST_HOUR = 99999;
    private static final int LAST_LOOKED_AT = 100100;
    private static final int LONG_SPAN = 2000;
    private static final int SHORT_SPAN = 48;
    private static final int LAST_DAY = 4166;
    private static final int DAY_HOURS = 24;
    private static final int PLACES = 24;
    private static final int MOST_STEPS = 40;
    private static final int MOST_ROWS = 80;
    private static final int MOST_NESTED = 3;
    private static final int MOST_OBEYED = 200;
    private static final int MOST_MARKS = 30;

    private static final int[] COS = {
        12, 12, 10, 8, 6, 3, 0, -3, -6, -8, -10, -12, -12, -12, -10, -8, -6, -3, 0, 3, 6, 8, 10, 12
    };

    private int status;
    private long fractionTop;
    private long fractionBottom;
    private final Tokens tape;
    private final Tray[] trays;
    private final Machine[] machines;
    private Machine spareMachine;
    private Orders program;
    private Orders spareProgram;
    private final Walk walk;
    private final Trains trains;
    private final Trading trading;
    private final Gauge gauge;
    private final Gauge laterGauge;
    private final Findings findings;
    private final Landing question;

    public TideDiscs() {
        status = FINE;
        fractionTop = 0;
        fractionBottom = 1;
        tape = new Tokens();
        trays = new Tray[TRAYS];
        for (int i = 0; i < TRAYS; i++) {
            trays[i] = new Tray();
        }
        machines = new Machine[2];
        machines[0] = new Machine();
        machines[1] = new Machine();
        spareMachine = new Machine();
        program = new Orders();
        spareProgram = new Orders();
        walk = new Walk();
        trains = new Trains();
        trading = new Trading();
        gauge = new Gauge();
        laterGauge = new Gauge();
        findings = new Findings();
        question = new Landing();
    }

    public int status() {
        return status;
    }

    public long top() {
        return fractionTop;
    }

    public long bottom() {
        return fractionBottom;
    }

    // ---- TRAYS

    public boolean tray(int tray, int sort, int many) {
        Tray t = trayOf(tray);
        if (t == null || sort < 0 || sort >= SORTS) {
            return no(NO_TRAY);
        }
        if (many > MOST_IN_TRAY) {
            return no(BAD_NUMBER);
        }
        if (many < 0) {
            return no(BELOW_ZERO);
        }
        t.makeAnew(sort, many);
        return yes();
    }

    public boolean write(int tray, int place, long v) {
        int why = whyNoPlace(tray, place);
        if (why != FINE) {
            return no(why);
        }
        trays[tray].put(place, v);
        return yes();
    }

    public long read(int tray, int place) {
        int why = whyNoPlace(tray, place);
        if (why != FINE) {
            return none(why);
        }
        status = FINE;
        return trays[tray].at(place);
    }

    public boolean pour(int tray, int i, int to, int j, int many) {
        Tray source = trayOf(tray);
        Tray target = trayOf(to);
        if (source == null || target == null) {
            return no(NO_TRAY);
        }
        if (source.isMissing() || target.isMissing()) {
            return no(MISSING);
        }
        if (source.sort != target.sort) {
            return no(UNLIKE_SORTS);
        }
        if (many < 0) {
            return no(BELOW_ZERO);
        }
        if (!source.hasRun(i, many) || !target.hasRun(j, many)) {
            return no(NO_PLACE);
        }
        System.arraycopy(source.row, i, target.row, j, many);
        return yes();
    }

    // ---- MACHINES

    public int feed(int a, int b, int c, int d, int e) {
        if (tape.length + FED_BYTES > MOST_BYTES) {
            return NONE;
        }
        tape.append(a);
        tape.append(b);
        tape.append(c);
        tape.append(d);
        tape.append(e);
        return tape.length;
    }

    public int machine(int machine, int n) {
        if (machineOf(machine) == null) {
            return none(NO_MACHINE);
        }
        if (n < 0 || n > tape.length) {
            return none(BAD_NUMBER);
        }
        tape.begin(n);
        boolean taken = spareMachine.readFrom(tape);
        tape.empty();
        if (!taken) {
            return none(FAULTY);
        }
        Machine old = machines[machine];
        machines[machine] = spareMachine;
        spareMachine = old;
        return answer(machines[machine].waveCount);
    }

    public int fault(int what) {
        if (what == 0) {
            return tape.faultKind;
        }
        return what == 1 ? tape.faultPlace : NONE;
    }

    public int told(int machine, int what) {
        Machine m = machineOf(machine);
        if (m == null) {
            return none(NO_MACHINE);
        }
        switch (what) {
            case 0: return answer(m.waveCount);
            case 1: return answer(m.kindCount);
            case 2: return answer(Math.max(m.slack, 0));
            case 3: return answer(Math.max(m.zero, 0));
            default: return none(BAD_NUMBER);
        }
    }

    public int wave(int machine, int wave, int what) {
        Wave w = waveOf(machine, wave);
        if (w == null) {
            return none(NO_MACHINE);
        }
        if (what < 0 || what > 7) {
            return none(BAD_NUMBER);
        }
        switch (what) {
            case 0: return answer(w.turns);
            case 1: return answer(w.hours);
            case 2: return answer(w.size);
            case 3: return answer(w.at);
            default: return w.hasTrain() ? answer(w.toothed(what - 4)) : none(THERE_IS_NONE);
        }
    }

    public boolean set(int machine, int wave, int size, int at) {
        Wave w = waveOf(machine, wave);
        if (w == null) {
            return no(NO_MACHINE);
        }
        if (!isWithin(size, 0, 99) || !isWithin(at, 0, 23)) {
            return no(BAD_NUMBER);
        }
        w.size = size;
        w.at = at;
        return yes();
    }

    // ---- PLACES, HEIGHTS

    public int place(int machine, int wave, int hour, boolean turned) {
        Wave w = waveOf(machine, wave);
        if (w == null) {
            return none(NO_MACHINE);
        }
        if (!isHour(hour)) {
            return none(BAD_NUMBER);
        }
        return answer(w.placeAt(hour, turned));
    }

    public int height(int machine, int hour, boolean turned) {
        Machine m = machineOf(machine);
        if (m == null) {
            return none(NO_MACHINE);
        }
        if (!isHour(hour)) {
            return none(BAD_NUMBER);
        }
        return answer(m.heightAt(hour, turned));
    }

    public int pointer(int machine, int from, int hour) {
        Machine m = machineOf(machine);
        if (m == null) {
            return none(NO_MACHINE);
        }
        // the POINTER may go 2,000 HOURS, so its span counts one HOUR more than others do
        if (!isSpan(from, hour, LONG_SPAN + 1)) {
            return none(BAD_NUMBER);
        }
        return answer(m.pointerAt(from, hour));
    }

    public boolean off(int machine, int wave, int hours) {
        Wave w = waveOf(machine, wave);
        if (w == null) {
            return no(NO_MACHINE);
        }
        if (!isHour(hours)) {
            return no(BAD_NUMBER);
        }
        if (!w.hasTrain()) {
            return no(THERE_IS_NONE);
        }
        tellFraction(w.offTop(w.driving, w.driven, hours), w.offBottom(w.driven));
        return yes();
    }

    public int train(int machine, int wave, int couples) {
        Machine m = machineOf(machine);
        Wave w = waveOf(machine, wave);
        if (m == null || w == null) {
            return none(NO_MACHINE);
        }
        if (!isWithin(couples, 1, 2)) {
            return none(BAD_NUMBER);
        }
        if (!trains.findBest(m, w, couples)) {
            return none(CANT_BE);
        }
        tellFraction(trains.bestOff * 24, w.offBottom(trains.bestDriven));
        return answer(trains.bestTeeth);
    }

    public int trained(int k) {
        if (k < 0 || k >= trains.trainWheels) {
            return none(THERE_IS_NONE);
        }
        return answer(trains.trainTeeth[k]);
    }

    public int share(int machine, int waves, int places, int hours) {
        Machine m = machineOf(machine);
        if (m == null || waves >> m.waveCount != 0) {
            return none(NO_MACHINE);
        }
        if (!isWithin(Integer.bitCount(waves), 1, MOST_SHARERS) || !isWithin(places, 0, 99) || !isHour(hours)) {
            return none(BAD_NUMBER);
        }
        if (!trains.findShared(m, waves, places, hours)) {
            return none(CANT_BE);
        }
        return answer(trains.bestTeeth);
    }

    public int shared(int k) {
        if (k < 0 || k >= trains.sharedWheels) {
            return none(THERE_IS_NONE);
        }
        return answer(trains.sharedTeeth[k]);
    }

    // ---- the GAUGE

    public boolean settings(int machine, int one, int other, int hours, int read, int many, int what) {
        if (!areTrays(hours, read)) {
            return no(NO_TRAY);
        }
        Wave first = waveOf(machine, one);
        Wave second = waveOf(machine, other);
        if (first == null || second == null) {
            return no(NO_MACHINE);
        }
        if (isOneMissing(hours, read)) {
            return no(MISSING);
        }
        if (!isWithin(many, 1, MOST_READINGS) || !isWithin(what, 0, one == other ? 2 : 4)) {
            return no(BAD_NUMBER);
        }
        if (!haveBoth(hours, read, many)) {
            return no(NO_PLACE);
        }
        if (!gauge.takeFrom(trays[hours], trays[read], many)) {
            return no(BAD_NUMBER);
        }
        if (!gauge.partsWaves(first, second, one == other)) {
            return no(CANT_BE);
        }
        tellFraction(gauge.partTop(what), gauge.partBottom);
        return yes();
    }

    public int changed(int machine, int one, int other, int hours, int read, int then, int what, int many, int more) {
        if (!areTrays(hours, read) || !areTrays(then, what)) {
            return none(NO_TRAY);
        }
        Wave first = waveOf(machine, one);
        Wave second = waveOf(machine, other);
        if (first == null || second == null) {
            return none(NO_MACHINE);
        }
        if (isOneMissing(hours, read) || isOneMissing(then, what)) {
            return none(MISSING);
        }
        if (!isWithin(many, 1, MOST_READINGS) || !isWithin(more, 0, 999)) {
            return none(BAD_NUMBER);
        }
        if (!haveBoth(hours, read, many) || !haveBoth(then, what, many)) {
            return none(NO_PLACE);
        }
        boolean good = gauge.takeFrom(trays[hours], trays[read], many);
        if (!good || !laterGauge.takeFrom(trays[then], trays[what], many)) {
            return none(BAD_NUMBER);
        }
        if (!gauge.partsWaves(first, second, one == other) || !laterGauge.partsWaves(first, second, one == other)) {
            return none(CANT_BE);
        }
        int set = haveMoved(1, more) ? 1 << one : 0;
        if (one != other && haveMoved(3, more)) {
            set |= 1 << other;
        }
        return answer(set);
    }

    public int slipped(int machine, int hours, int read, int many, int what) {
        int why = whyNoGauge(machine, hours, read, many, isWithin(what, 0, 1));
        if (why != FINE) {
            return none(why);
        }
        findings.findSlip(machines[machine], gauge, what == 0);
        return answer(findings.slipFrom);
    }

    public int slip() {
        return findings.slipKnown ? answer(findings.slipBy) : none(THERE_IS_NONE);
    }

    public int neighbour(int machine, int hours, int read, int many) {
        int why = whyNoGauge(machine, hours, read, many, true);
        if (why != FINE) {
            return none(why);
        }
        findings.findNeighbour(machines[machine], gauge);
        return answer(findings.ratio);
    }

    public int lag() {
        return findings.ratio == NONE ? none(THERE_IS_NONE) : answer(findings.behind);
    }

    public int led(int machine, int hours, int read, int many) {
        int why = whyNoGauge(machine, hours, read, many, true);
        if (why != FINE) {
            return none(why);
        }
        findings.findWheel(machines[machine], gauge);
        return answer(findings.ledWave);
    }

    public int wheel(int what) {
        if (!isWithin(what, 0, 1)) {
            return none(BAD_NUMBER);
        }
        if (findings.ledWave == NONE) {
            return none(THERE_IS_NONE);
        }
        if (what == 0) {
            return answer(findings.ledWheel);
        }
        return answer(findings.ledByMore ? 1 : 0);
    }

    // ---- spans

    public int extreme(int machine, int from, int to, boolean turned, boolean high) {
        Machine m = machineOf(machine);
        if (m == null) {
            return none(NO_MACHINE);
        }
        if (!isSpan(from, to, LONG_SPAN)) {
            return none(BAD_NUMBER);
        }
        return answer(m.extremeHour(from, to, turned, high));
    }

    public int bounds(int machine, int hour, int e, int what) {
        Machine m = machineOf(machine);
        if (m == null) {
            return none(NO_MACHINE);
        }
        if (!isHour(hour) || !isWithin(e, 0, 5) || !isWithin(what, 0, 1)) {
            return none(BAD_NUMBER);
        }
        return answer(m.boundAt(hour, e, what == 1));
    }

    public boolean ask(int least, int most, int e, boolean rising, int moon, int places, int from, int to) {
        if (moon < NONE) {
            return no(NO_MACHINE);
        }
        boolean heightsFine = least >= -99999 && most <= 99999 && least <= most;
        boolean placesFine = isWithin(e, 0, 5) && isWithin(places, 0, 12);
        if (!heightsFine || !placesFine || !isWithin(from, 0, 23) || !isWithin(to, 0, 23)) {
            return no(BAD_NUMBER);
        }
        question.least = least;
        question.most = most;
        question.e = e;
        question.rising = rising;
        question.moon = moon;
        question.places = places;
        question.from = from;
        question.to = to;
        return yes();
    }

    public int landing(int machine, int from, int to) {
        Machine m = machineOf(machine);
        if (m == null || question.moon >= m.waveCount) {
            return none(NO_MACHINE);
        }
        if (!isSpan(from, to, LONG_SPAN)) {
            return none(BAD_NUMBER);
        }
        int hour = question.firstHour(m, from, to);
        return hour == NONE ? none(THERE_IS_NONE) : answer(hour);
    }

    public int spread(int machine, int wave, int from, int to) {
        Machine m = machineOf(machine);
        if (m == null || m.waveAt(wave) == null) {
            return none(NO_MACHINE);
        }
        if (!isSpan(from, to, SHORT_SPAN)) {
            return none(BAD_NUMBER);
        }
        findings.findSpread(m, wave, from, to);
        return answer(findings.spreadWave);
    }

    public int spreadTold(int what) {
        if (!isWithin(what, 0, 2)) {
            return none(BAD_NUMBER);
        }
        if (what == 2) {
            return findings.spreadKnown ? answer(findings.spreadSum) : none(THERE_IS_NONE);
        }
        if (findings.spreadWave == NONE) {
            return none(THERE_IS_NONE);
        }
        return answer(what == 0 ? findings.spreadSize : findings.spreadAt);
    }

    public int compare(int from, int to, int more) {
        if (!isSpan(from, to, LONG_SPAN) || !isWithin(more, 0, 99999)) {
            return none(BAD_NUMBER);
        }
        for (int hour = from; hour <= to; hour++) {
            int apart = machines[0].heightAt(hour, true) - machines[1].heightAt(hour, true);
            if (Math.abs(apart) > more) {
                return answer(hour);
            }
        }
        return answer(NONE);
    }

    // ---- DAYS, wheels, ORDERS

    public int waters(int machine, int day, boolean high, boolean turned) {
        Machine m = machineOf(machine);
        if (m == null) {
            return none(NO_MACHINE);
        }
        if (!isWithin(day, 0, LAST_DAY)) {
            return none(BAD_NUMBER);
        }
        return answer(m.watersOf(day, high, turned));
    }

    public int water(int machine, int day, boolean high, boolean turned, int k) {
        Machine m = machineOf(machine);
        if (m == null) {
            return none(NO_MACHINE);
        }
        if (!isWithin(day, 0, LAST_DAY)) {
            return none(BAD_NUMBER);
        }
        int hour = m.waterOf(day, high, turned, k);
        return hour == NONE ? none(THERE_IS_NONE) : answer(hour);
    }

    public int range(int machine, int day, boolean turned) {
        Machine m = machineOf(machine);
        if (m == null) {
            return none(NO_MACHINE);
        }
        if (!isWithin(day, 0, LAST_DAY)) {
            return none(BAD_NUMBER);
        }
        return answer(m.rangeOf(day, turned));
    }

    public int gap(int machine, int day, boolean turned, int k) {
        Machine m = machineOf(machine);
        if (m == null) {
            return none(NO_MACHINE);
        }
        if (!isWithin(day, 0, LAST_DAY)) {
            return none(BAD_NUMBER);
        }
        int hour = m.waterOf(day, true, turned, k);
        if (hour == NONE) {
            return none(THERE_IS_NONE);
        }
        int next = m.nextWater(hour + 1, Math.min(hour + 200, LAST_HOUR), true, turned);
        return next == NONE ? none(THERE_IS_NONE) : answer(next - hour);
    }

    public int worn(int machine, int wave, int k, int hours) {
        Wave w = waveOf(machine, wave);
        if (w == null || k < 0 || k >= WHEELS) {
            return none(NO_MACHINE);
        }
        if (!isHour(hours)) {
            return none(BAD_NUMBER);
        }
        if (k >= w.wheels()) {
            return none(THERE_IS_NONE);
        }
        return answer(w.wearOf(k, hours));
    }

    public int lasts(int machine, int limit) {
        Machine m = machineOf(machine);
        if (m == null) {
            return none(NO_MACHINE);
        }
        if (!isWithin(limit, 1, 9999999)) {
            return none(BAD_NUMBER);
        }
        long hour = m.firstWornHour(limit);
        return hour > LAST_HOUR ? none(THERE_IS_NONE) : answer((int) hour);
    }

    public long trade(int hours) {
        if (!isHour(hours)) {
            return none(BAD_NUMBER);
        }
        trading.findTrade(machines[0], machines[1], hours);
        status = FINE;
        return trading.least;
    }

    public int traded(int what) {
        if (!isWithin(what, 0, 3)) {
            return none(BAD_NUMBER);
        }
        return trading.isTraded ? answer(trading.traded[what]) : none(THERE_IS_NONE);
    }

    public int orders(int n) {
        if (n < 0 || n > tape.length || n > MOST_ORDER_BYTES) {
            return none(BAD_NUMBER);
        }
        tape.begin(n);
        boolean taken = spareProgram.readFrom(tape);
        tape.empty();
        if (!taken) {
            return none(FAULTY);
        }
        Orders old = program;
        program = spareProgram;
        spareProgram = old;
        return answer(program.steps);
    }

    public int obey(int machine, int from) {
        Machine m = machineOf(machine);
        if (m == null) {
            return none(NO_MACHINE);
        }
        if (!isHour(from)) {
            return none(BAD_NUMBER);
        }
        walk.goThrough(program, m, from);
        return answer(walk.hour);
    }

    public long obeyed(int what) {
        if (!isWithin(what, 0, 3)) {
            return none(BAD_NUMBER);
        }
        if (!walk.known) {
            return none(THERE_IS_NONE);
        }
        status = FINE;
        switch (what) {
            case 0: return walk.steps;
            case 1: return walk.register;
            case 2: return walk.marks;
            default: return walk.stepLeft ? 1 : 0;
        }
    }

    public int marked(int k) {
        if (k < 0 || k >= walk.marks) {
            return none(THERE_IS_NONE);
        }
        return answer(walk.markedHours[k]);
    }

    public int table(int machine, int tray, int from, int many) {
        Tray t = trayOf(tray);
        if (t == null) {
            return none(NO_TRAY);
        }
        Machine m = machineOf(machine);
        if (m == null) {
            return none(NO_MACHINE);
        }
        if (t.isMissing()) {
            return none(MISSING);
        }
        if (!isWithin(many, 1, MOST_IN_TRAY) || !isHour(from) || !isHour(from + many - 1)) {
            return none(BAD_NUMBER);
        }
        if (!t.hasRun(0, many)) {
            return none(NO_PLACE);
        }
        for (int i = 0; i < many; i++) {
            if (t.at(i) != m.heightAt(from + i, true)) {
                return answer(i);
            }
        }
        return answer(NONE);
    }

    // ---- what several calls ask

    private int none(int why) {
        status = why;
        return NONE;
    }

    private boolean no(int why) {
        status = why;
        return false;
    }

    private boolean yes() {
        status = FINE;
        return true;
    }

    private int answer(int value) {
        status = FINE;
        return value;
    }

    private Tray trayOf(int tray) {
        return tray < 0 || tray >= TRAYS ? null : trays[tray];
    }

    private Machine machineOf(int machine) {
        return machine < 0 || machine > 1 ? null : machines[machine];
    }

    private Wave waveOf(int machine, int wave) {
        Machine m = machineOf(machine);
        return m == null ? null : m.waveAt(wave);
    }

    private int whyNoPlace(int tray, int place) {
        Tray t = trayOf(tray);
        if (t == null) {
            return NO_TRAY;
        }
        if (t.isMissing()) {
            return MISSING;
        }
        return place < 0 || place >= t.many ? NO_PLACE : FINE;
    }

    private boolean areTrays(int one, int other) {
        return trayOf(one) != null && trayOf(other) != null;
    }

    private boolean isOneMissing(int one, int other) {
        return trays[one].isMissing() || trays[other].isMissing();
    }

    private boolean haveBoth(int one, int other, int many) {
        return trays[one].hasRun(0, many) && trays[other].hasRun(0, many);
    }

    private int whyNoGauge(int machine, int hours, int read, int many, boolean restFine) {
        if (!areTrays(hours, read)) {
            return NO_TRAY;
        }
        if (machineOf(machine) == null) {
            return NO_MACHINE;
        }
        if (isOneMissing(hours, read)) {
            return MISSING;
        }
        if (!isWithin(many, 1, MOST_READINGS) || !restFine) {
            return BAD_NUMBER;
        }
        if (!haveBoth(hours, read, many)) {
            return NO_PLACE;
        }
        return gauge.takeFrom(trays[hours], trays[read], many) ? FINE : BAD_NUMBER;
    }

    /** Whether COS's part (numbered so) or SIN's (the next one) differs by more between the two GAUGES. */
    private boolean haveMoved(int part, int more) {
        long cosApart = laterGauge.roundedPart(part) - gauge.roundedPart(part);
        long sinApart = laterGauge.roundedPart(part + 1) - gauge.roundedPart(part + 1);
        return Math.abs(cosApart) > more || Math.abs(sinApart) > more;
    }

    private void tellFraction(long top, long bottom) {
        long divisor = commonDivisor(Math.abs(top), bottom);
        if (divisor <= 0) {
            return;
        }
        fractionTop = top / divisor;
        fractionBottom = bottom / divisor;
    }

    private static long commonDivisor(long a, long b) {
        // Euclid's remainders at least halve every two rounds: 63 bits are gone after 126
        for (int i = 0; i < 200 && b != 0; i++) {
            long rest = a % b;
            a = b;
            b = rest;
        }
        return a;
    }

    private static boolean isWithin(int number, int least, int most) {
        return number >= least && number <= most;
    }

    private static boolean isHour(int hour) {
        return hour >= 0 && hour <= LAST_HOUR;
    }

    private static boolean isSpan(int from, int to, int most) {
        return isHour(from) && isHour(to) && from <= to && to - from < most;
    }

    private static int cosOf(long place) {
        int rest = (int) (place % PLACES);
        return COS[rest < 0 ? rest + PLACES : rest];
    }

    /** A row of numbers. */
    private static final class Tray {
        private int sort = NONE;
        private int many;
        private final long[] row = new long[MOST_IN_TRAY];

        boolean isMissing() {
            return sort == NONE;
        }

        void makeAnew(int newSort, int newMany) {
            sort = newSort;
            many = Math.max(0, Math.min(newMany, MOST_IN_TRAY));
            for (int i = 0; i < MOST_IN_TRAY; i++) {
                row[i] = 0;
            }
        }

        boolean hasRun(int from, int length) {
            return from >= 0 && length >= 0 && from <= many && length <= many - from;
        }

        long at(int place) {
            return place < 0 || place >= many ? NONE : row[place];
        }

        void put(int place, long v) {
            if (place < 0 || place >= many) {
                return;
            }
            switch (sort) {
                case 0: row[place] = (byte) v; break;
                case 1: row[place] = (short) v; break;
                case 2: row[place] = (int) v; break;
                default: row[place] = v; break;
            }
        }
    }

    /** The tape, and the TOKENS of the text that is read from it. */
    private static final class Tokens {
        private static final int END = 0;
        private static final int WORD = 1;
        private static final int NUMBER = 2;
        private static final int SIGN = 3;
        private static final int NO_TOKEN = 4;

        private static final int FAULT_NO_TOKEN = 1;
        private static final int FAULT_CANT_STAND = 2;
        private static final int FAULT_NAME = 3;
        private static final int FAULT_NUMBER = 4;
        private static final int FAULT_AGAIN = 5;
        private static final int FAULT_TOO_MANY = 6;

        private static final int MOST_DIGITS = 4;
        private static final int MOST_LETTERS = 8;

        private final byte[] bytes = new byte[MOST_BYTES];
        private int length;
        private int end;
        private int sort;
        private int start;
        private int stop;
        private int value;
        private int faultKind = NONE;
        private int faultPlace = NONE;

        void append(int four) {
            for (int shift = 24; shift >= 0; shift -= 8) {
                if (length < MOST_BYTES) {
                    bytes[length] = (byte) (four >> shift);
                    length++;
                }
            }
        }

        void empty() {
            length = 0;
        }

        void begin(int n) {
            end = Math.max(0, Math.min(n, length));
            stop = 0;
            faultKind = 0;
            faultPlace = NONE;
            advance();
        }

        /** Goes on to the next TOKEN; what is wrong with it is told when it is asked for, so that faults come in order. */
        void advance() {
            int i = stop;
            while (i < end && isBlank(bytes[i])) {
                i++;
            }
            start = i;
            value = 0;
            sort = i < end ? sortOf(bytes[i]) : END;
            if (sort == SIGN) {
                i++;
            }
            while (sort == WORD && i < end && sortOf(bytes[i]) == WORD) {
                i++;
            }
            while (sort == NUMBER && i < end && sortOf(bytes[i]) == NUMBER) {
                value = i - start < MOST_DIGITS ? value * 10 + bytes[i] - '0' : value;
                i++;
            }
            if (sort == NUMBER && i - start > MOST_DIGITS) {
                sort = NO_TOKEN;
            }
            stop = i;
        }

        private static boolean isBlank(int b) {
            return b == 10 || b == 32;
        }

        /** The sort of a TOKEN that begins with this byte. */
        private static int sortOf(int b) {
            if (b >= 'a' && b <= 'z') {
                return WORD;
            }
            if (b >= '0' && b <= '9') {
                return NUMBER;
            }
            return b == ';' ? SIGN : NO_TOKEN;
        }

        private int byteAt(int i) {
            return i < 0 || i >= MOST_BYTES ? NONE : bytes[i] & 255;
        }

        /** Notes a FAULT at this TOKEN; where no TOKEN begins, that is the least kind. */
        boolean refuse(int kind) {
            faultKind = sort == NO_TOKEN ? FAULT_NO_TOKEN : kind;
            faultPlace = start;
            return false;
        }

        boolean isAtEnd() {
            return sort == END;
        }

        boolean isSign() {
            return sort == SIGN;
        }

        boolean isNumber() {
            return sort == NUMBER;
        }

        boolean isWord(String word) {
            int letters = word.length();
            if (sort != WORD || stop - start != letters) {
                return false;
            }
            for (int i = 0; i < letters; i++) {
                if (byteAt(start + i) != word.charAt(i)) {
                    return false;
                }
            }
            return true;
        }

        boolean isName() {
            return sort == WORD && stop - start <= MOST_LETTERS && !isKept();
        }

        private boolean isKept() {
            return isWord("wave") || isWord("turns") || isWord("in") || isWord("size") || isWord("at")
                || isWord("train") || isWord("box") || isWord("of") || isWord("slack") || isWord("zero");
        }

        /** A WORD of at most 8 letters as one number, so that names are kept and compared without making texts. */
        long nameCode() {
            long code = 0;
            for (int i = start; i < stop && i < start + MOST_LETTERS; i++) {
                code = code * 27 + byteAt(i) - 'a' + 1;
            }
            return code;
        }

        boolean takesWord(String word) {
            if (!isWord(word)) {
                return refuse(FAULT_CANT_STAND);
            }
            advance();
            return true;
        }

        boolean takesSign() {
            if (!isSign()) {
                return refuse(FAULT_CANT_STAND);
            }
            advance();
            return true;
        }

        /** Whether a NUMBER from least to most stands here; it is not gone past, for more may be wrong with it. */
        boolean standsNumber(int least, int most) {
            if (!isNumber()) {
                return refuse(FAULT_CANT_STAND);
            }
            return value >= least && value <= most || refuse(FAULT_NUMBER);
        }
    }

    /** One disc: its WAVE and perhaps its TRAIN. */
    private static final class Wave {
        private long name;
        private int turns = 1;
        private int hours = 1;
        private int size;
        private int at;
        private int couples;
        private final int[] teeth = {1, 1, 1, 1};
        private long driving = 1;
        private long driven = 1;

        void clear(long newName) {
            name = newName;
            turns = 1;
            hours = 1;
            size = 0;
            at = 0;
            couples = 0;
            for (int k = 0; k < WHEELS; k++) {
                teeth[k] = 1;
            }
            multiplyTeeth();
        }

        /** Both products are asked for in every HOUR, so they are kept. */
        void multiplyTeeth() {
            driving = (long) teeth[0] * teeth[2];
            driven = (long) teeth[1] * teeth[3];
        }

        boolean hasTrain() {
            return couples > 0;
        }

        int wheels() {
            return 2 * couples;
        }

        int toothed(int k) {
            return k < 0 || k >= WHEELS ? 1 : teeth[k];
        }

        /** All driving teeth, if wheel k had so many. */
        long drivingWith(int k, int many) {
            return (long) (k == 0 ? many : teeth[0]) * (k == 2 ? many : teeth[2]);
        }

        /** All driven teeth, if wheel k had so many. */
        long drivenWith(int k, int many) {
            return (long) (k == 1 ? many : teeth[1]) * (k == 3 ? many : teeth[3]);
        }

        /** PLACES gone by from HOUR 0, TRUE. */
        long trueGone(long hour) {
            return hours <= 0 ? 0 : 24L * turns * hour / hours;
        }

        /** PLACES gone by from HOUR 0 with such wheels. */
        static long turnedGone(long hour, long drivingTeeth, long drivenTeeth) {
            return drivenTeeth <= 0 ? 0 : hour * drivingTeeth / drivenTeeth;
        }

        int placeAt(long hour, boolean turned) {
            boolean byTrain = turned && couples > 0;
            long gone = byTrain ? turnedGone(hour, driving, driven) : trueGone(hour);
            return (int) ((at + gone) % PLACES);
        }

        /** The top of how far such a TRAIN is OFF; its bottom is offBottom(). */
        long offTop(long drivingTeeth, long drivenTeeth, int byHours) {
            return Math.abs(24L * turns * drivenTeeth - drivingTeeth * hours) * byHours;
        }

        long offBottom(long drivenTeeth) {
            return drivenTeeth * hours;
        }

        long offThousandths(long drivingTeeth, long drivenTeeth, int byHours) {
            long bottom = offBottom(drivenTeeth);
            return bottom <= 0 ? 0 : offTop(drivingTeeth, drivenTeeth, byHours) * 1000 / bottom;
        }

        /** A driven wheel's teeth pass as its driver's do, so a couple's two wheels WEAR alike. */
        int wearOf(int k, int byHours) {
            long passed = (long) byHours * teeth[0];
            if (k < 2) {
                return (int) (passed / DAY_HOURS);
            }
            long slower = (long) DAY_HOURS * teeth[1];
            return slower <= 0 ? 0 : (int) (passed * teeth[2] / slower);
        }

        /** The first HOUR by which a wheel of the TRAIN has a WEAR of limit; above all HOURS without a TRAIN. */
        long firstWornHour(int limit) {
            long first = LAST_HOUR + 1L;
            if (couples > 0) {
                first = Math.min(first, roundedUp((long) DAY_HOURS * limit, teeth[0]));
            }
            if (couples > 1) {
                first = Math.min(first, roundedUp((long) DAY_HOURS * limit * teeth[1], (long) teeth[0] * teeth[2]));
            }
            return first;
        }

        private static long roundedUp(long top, long bottom) {
            return bottom <= 0 ? LAST_HOUR + 1L : (top + bottom - 1) / bottom;
        }
    }

    /** WAVES, the BOX, SLACK and ZERO. */
    private static final class Machine {
        // SETTINGS as bits, for a wave has each of them once at the most
        private static final int SIZE = 1;
        private static final int AT = 2;
        private static final int TRAIN = 4;

        private final Wave[] waves;
        private int waveCount;
        private final int[] kindWheels = new int[MOST_KINDS];
        private final int[] kindTeeth = new int[MOST_KINDS];
        private int kindCount;
        private int slack = NONE;
        private int zero = NONE;

        Machine() {
            waves = new Wave[MOST_WAVES];
            for (int i = 0; i < MOST_WAVES; i++) {
                waves[i] = new Wave();
            }
        }

        Wave waveAt(int wave) {
            return wave < 0 || wave >= waveCount ? null : waves[wave];
        }

        // ---- how a text becomes a MACHINE

        boolean readFrom(Tokens text) {
            waveCount = 0;
            kindCount = 0;
            slack = NONE;
            zero = NONE;
            for (int i = 0; i <= MOST_BYTES; i++) {
                if (text.isAtEnd()) {
                    return true;
                }
                if (!readsPart(text)) {
                    return false;
                }
            }
            return text.refuse(Tokens.FAULT_CANT_STAND);
        }

        private boolean readsPart(Tokens text) {
            if (text.isWord("wave")) {
                return readsWave(text);
            }
            if (text.isWord("box")) {
                return readsBox(text);
            }
            if (text.isWord("slack")) {
                return readsSlack(text);
            }
            return text.isWord("zero") ? readsZero(text) : text.refuse(Tokens.FAULT_CANT_STAND);
        }

        private boolean readsWave(Tokens text) {
            text.advance();
            if (!text.isName()) {
                return text.refuse(Tokens.FAULT_CANT_STAND);
            }
            long name = text.nameCode();
            if (hasName(name)) {
                return text.refuse(Tokens.FAULT_NAME);
            }
            if (waveCount >= MOST_WAVES) {
                return text.refuse(Tokens.FAULT_TOO_MANY);
            }
            text.advance();
            Wave w = waves[waveCount];
            w.clear(name);
            if (!readsTurns(text, w) || !readsSettings(text, w)) {
                return false;
            }
            waveCount++;
            return true;
        }

        private boolean hasName(long name) {
            for (int i = 0; i < waveCount; i++) {
                if (waves[i].name == name) {
                    return true;
                }
            }
            return false;
        }

        private static boolean readsTurns(Tokens text, Wave w) {
            if (!text.takesWord("turns") || !text.standsNumber(1, 9999)) {
                return false;
            }
            w.turns = text.value;
            text.advance();
            if (!text.takesWord("in") || !text.standsNumber(1, 9999)) {
                return false;
            }
            w.hours = text.value;
            text.advance();
            return true;
        }

        private static boolean readsSettings(Tokens text, Wave w) {
            int told = 0;
            for (int i = 0; i <= MOST_BYTES; i++) {
                int setting = settingOf(text);
                if (setting == 0) {
                    return text.takesSign();
                }
                if ((told & setting) != 0) {
                    return text.refuse(Tokens.FAULT_AGAIN);
                }
                told |= setting;
                text.advance();
                boolean read = setting == TRAIN ? readsTrain(text, w) : readsNumber(text, w, setting);
                if (!read) {
                    return false;
                }
            }
            return text.refuse(Tokens.FAULT_CANT_STAND);
        }

        private static int settingOf(Tokens text) {
            if (text.isWord("size")) {
                return SIZE;
            }
            if (text.isWord("at")) {
                return AT;
            }
            return text.isWord("train") ? TRAIN : 0;
        }

        private static boolean readsNumber(Tokens text, Wave w, int setting) {
            if (!text.standsNumber(0, setting == SIZE ? 99 : 23)) {
                return false;
            }
            if (setting == SIZE) {
                w.size = text.value;
            } else {
                w.at = text.value;
            }
            text.advance();
            return true;
        }

        private static boolean readsTrain(Tokens text, Wave w) {
            for (int k = 0; k < WHEELS; k++) {
                if (k == 2 && !text.isNumber()) {
                    break;
                }
                if (!text.standsNumber(5, 200)) {
                    return false;
                }
                w.teeth[k] = text.value;
                w.couples = k / 2 + 1;
                text.advance();
            }
            w.multiplyTeeth();
            return true;
        }

        private boolean readsBox(Tokens text) {
            if (kindCount >= MOST_KINDS) {
                return text.refuse(Tokens.FAULT_TOO_MANY);
            }
            text.advance();
            if (!text.standsNumber(0, 9)) {
                return false;
            }
            int many = text.value;
            text.advance();
            if (!text.takesWord("of") || !text.standsNumber(5, 200)) {
                return false;
            }
            if (hasKind(text.value)) {
                return text.refuse(Tokens.FAULT_TOO_MANY);
            }
            kindWheels[kindCount] = many;
            kindTeeth[kindCount] = text.value;
            kindCount++;
            text.advance();
            return text.takesSign();
        }

        private boolean hasKind(int teeth) {
            for (int i = 0; i < kindCount; i++) {
                if (kindTeeth[i] == teeth) {
                    return true;
                }
            }
            return false;
        }

        private boolean readsSlack(Tokens text) {
            if (slack != NONE) {
                return text.refuse(Tokens.FAULT_AGAIN);
            }
            text.advance();
            if (!text.standsNumber(0, 99)) {
                return false;
            }
            slack = text.value;
            text.advance();
            return text.takesSign();
        }

        private boolean readsZero(Tokens text) {
            if (zero != NONE) {
                return text.refuse(Tokens.FAULT_AGAIN);
            }
            text.advance();
            if (!text.standsNumber(0, 99)) {
                return false;
            }
            zero = text.value;
            text.advance();
            return text.takesSign();
        }

        // ---- HEIGHTS

        int zeroHeight() {
            return 12 * Math.max(zero, 0);
        }

        int heightAt(long hour, boolean turned) {
            int sum = zeroHeight();
            for (int i = 0; i < waveCount; i++) {
                Wave w = waves[i];
                if (w.size != 0) {
                    sum += w.size * cosOf(w.placeAt(hour, turned));
                }
            }
            return sum;
        }

        /** HEIGHT TRUE without ZERO, with all PLACES so much less. */
        int laggedHeightAt(long hour, int lag) {
            int sum = 0;
            for (int i = 0; i < waveCount; i++) {
                Wave w = waves[i];
                sum += w.size * cosOf(w.placeAt(hour, false) - lag);
            }
            return sum;
        }

        int boundAt(long hour, int e, boolean greatest) {
            int sum = zeroHeight();
            for (int i = 0; i < waveCount; i++) {
                Wave w = waves[i];
                sum += w.size * extremeCos(w.placeAt(hour, false), e, greatest);
            }
            return sum;
        }

        private static int extremeCos(int place, int e, boolean greatest) {
            int found = cosOf(place);
            for (int d = -e; d <= e; d++) {
                int cos = cosOf(place + d);
                found = greatest ? Math.max(found, cos) : Math.min(found, cos);
            }
            return found;
        }

        /** No HEIGHT is further than this from that of ZERO. */
        int mostSwing() {
            int sum = 0;
            for (int i = 0; i < waveCount; i++) {
                sum += 12 * waves[i].size;
            }
            return sum;
        }

        int pointerAt(int from, int to) {
            int slackHere = Math.max(slack, 0);
            int told = heightAt(from, true);
            for (int hour = from + 1; hour <= to; hour++) {
                int now = heightAt(hour, true);
                if (now > told + slackHere) {
                    told = now - slackHere;
                } else if (now < told - slackHere) {
                    told = now + slackHere;
                }
            }
            return told;
        }

        int extremeHour(int from, int to, boolean turned, boolean high) {
            int found = from;
            int best = heightAt(from, turned);
            for (int hour = from + 1; hour <= to; hour++) {
                int now = heightAt(hour, turned);
                if (high ? now > best : now < best) {
                    best = now;
                    found = hour;
                }
            }
            return found;
        }

        // ---- DAYS

        private static int lastHourOf(int day) {
            return Math.min(DAY_HOURS * day + DAY_HOURS - 1, LAST_HOUR);
        }

        int rangeOf(int day, boolean turned) {
            int first = DAY_HOURS * day;
            int last = lastHourOf(day);
            int highest = heightAt(extremeHour(first, last, turned, true), turned);
            return highest - heightAt(extremeHour(first, last, turned, false), turned);
        }

        int watersOf(int day, boolean high, boolean turned) {
            int last = lastHourOf(day);
            int count = 0;
            int hour = nextWater(DAY_HOURS * day, last, high, turned);
            for (int i = 0; i < DAY_HOURS && hour != NONE; i++) {
                count++;
                hour = nextWater(hour + 1, last, high, turned);
            }
            return count;
        }

        int waterOf(int day, boolean high, boolean turned, int k) {
            if (k < 0 || k >= DAY_HOURS) {
                return NONE;
            }
            int last = lastHourOf(day);
            int hour = nextWater(DAY_HOURS * day, last, high, turned);
            for (int i = 0; i < k && hour != NONE; i++) {
                hour = nextWater(hour + 1, last, high, turned);
            }
            return hour;
        }

        /** The first HIGH (LOW) WATER from an HOUR to another one, or NONE. */
        int nextWater(int from, int to, boolean high, boolean turned) {
            int first = Math.max(from, 1);
            int come = NONE;
            int before = heightAt(first - 1, turned);
            // nothing moves without a SIZE, and then no HOUR has to be looked at
            int last = mostSwing() == 0 ? NONE : LAST_LOOKED_AT;
            for (int hour = first; hour <= last && (hour <= to || come != NONE); hour++) {
                int now = heightAt(hour, turned);
                boolean comes = high ? now > before : now < before;
                if (comes) {
                    come = hour <= to ? hour : NONE;
                } else if (now != before && come != NONE) {
                    return come;
                }
                before = now;
            }
            return NONE;
        }

        long firstWornHour(int limit) {
            long first = LAST_HOUR + 1L;
            for (int i = 0; i < waveCount; i++) {
                first = Math.min(first, waves[i].firstWornHour(limit));
            }
            return first;
        }
    }

    /** BEST TRAIN and SHARED, both by trying KINDS in their order, so that of several the first stays. */
    private static final class Trains {
        private static final int SHARED_WHEELS = 2 * MOST_SHARERS;
        private static final int COUPLES = MOST_KINDS * MOST_KINDS;
        private static final int NO_TEETH_YET = 1000000;

        private Machine box;
        private Wave wave;
        private int wheels;
        private final int[] left = new int[MOST_KINDS];
        private final int[] tried = new int[SHARED_WHEELS];
        private final int[] best = new int[SHARED_WHEELS];
        private final boolean[] fits = new boolean[MOST_SHARERS * COUPLES];
        private final int[] leastFrom = new int[MOST_SHARERS + 1];
        private int bestTeeth;
        private long bestOff;
        private long bestDriven;
        private final int[] trainTeeth = new int[WHEELS];
        private int trainWheels;
        private final int[] sharedTeeth = new int[SHARED_WHEELS];
        private int sharedWheels;

        private int emptiedBox(Machine m) {
            box = m;
            int all = 0;
            for (int i = 0; i < m.kindCount; i++) {
                left[i] = m.kindWheels[i];
                all += m.kindWheels[i];
            }
            return all;
        }

        boolean findBest(Machine m, Wave w, int couples) {
            int all = emptiedBox(m);
            if (all < 2 * couples || couples > 2) {
                return false;
            }
            wave = w;
            wheels = 2 * couples;
            bestDriven = 0;
            tryWheel(0);
            for (int k = 0; k < wheels; k++) {
                trainTeeth[k] = best[k];
            }
            trainWheels = wheels;
            return true;
        }

        private void tryWheel(int k) {
            if (k >= wheels || k >= WHEELS) {
                weighTrain();
                return;
            }
            for (int kind = 0; kind < box.kindCount; kind++) {
                if (left[kind] > 0) {
                    left[kind]--;
                    tried[k] = box.kindTeeth[kind];
                    tryWheel(k + 1);
                    left[kind]++;
                }
            }
        }

        private void weighTrain() {
            boolean two = wheels > 2;
            long driving = two ? (long) tried[0] * tried[2] : tried[0];
            long driven = two ? (long) tried[1] * tried[3] : tried[1];
            int teeth = tried[0] + tried[1] + (two ? tried[2] + tried[3] : 0);
            long off = wave.offTop(driving, driven, 1);
            // the HOURS of the WAVE stand in both bottoms, so driven teeth alone tell which fraction is less
            long less = bestDriven == 0 ? -1 : off * bestDriven - bestOff * driven;
            if (less < 0 || less == 0 && teeth < bestTeeth) {
                bestOff = off;
                bestDriven = driven;
                bestTeeth = teeth;
                keepTried();
            }
        }

        private void keepTried() {
            for (int k = 0; k < wheels; k++) {
                best[k] = tried[k];
            }
        }

        boolean findShared(Machine m, int set, int places, int hours) {
            emptiedBox(m);
            wheels = 0;
            for (int i = 0; i < m.waveCount; i++) {
                if ((set >> i & 1) != 0 && wheels < SHARED_WHEELS) {
                    noteFitting(m.waves[i], places, hours);
                    wheels += 2;
                }
            }
            bestTeeth = NO_TEETH_YET;
            sumLeast();
            tryCouple(0, 0);
            if (bestTeeth == NO_TEETH_YET) {
                return false;
            }
            for (int k = 0; k < wheels; k++) {
                sharedTeeth[k] = best[k];
            }
            sharedWheels = wheels;
            return true;
        }

        /** Which couples fit the next WAVE of the set, and the fewest teeth of these. */
        private void noteFitting(Wave w, int places, int hours) {
            int sharer = wheels / 2;
            leastFrom[sharer] = NO_TEETH_YET;
            for (int a = 0; a < box.kindCount; a++) {
                for (int b = 0; b < box.kindCount; b++) {
                    int driven = box.kindTeeth[b];
                    boolean fit = w.offTop(box.kindTeeth[a], driven, hours) <= places * w.offBottom(driven);
                    fits[sharer * COUPLES + a * MOST_KINDS + b] = fit;
                    if (fit) {
                        leastFrom[sharer] = Math.min(leastFrom[sharer], box.kindTeeth[a] + driven);
                    }
                }
            }
        }

        /** From the fewest teeth of each sharer to those of it and all behind it. */
        private void sumLeast() {
            int sharers = wheels / 2;
            leastFrom[sharers] = 0;
            for (int i = sharers - 1; i >= 0; i--) {
                leastFrom[i] = Math.min(NO_TEETH_YET, leastFrom[i] + leastFrom[i + 1]);
            }
        }

        private void tryCouple(int sharer, int teeth) {
            if (sharer >= MOST_SHARERS || 2 * sharer >= wheels) {
                bestTeeth = teeth;
                keepTried();
                return;
            }
            for (int a = 0; a < box.kindCount; a++) {
                if (left[a] > 0) {
                    left[a]--;
                    tried[2 * sharer] = box.kindTeeth[a];
                    tryDriven(sharer, a, teeth + box.kindTeeth[a]);
                    left[a]++;
                }
            }
        }

        private void tryDriven(int sharer, int a, int teeth) {
            for (int b = 0; b < box.kindCount; b++) {
                int together = teeth + box.kindTeeth[b];
                boolean fewer = together + leastFrom[sharer + 1] < bestTeeth;
                if (fewer && left[b] > 0 && fits[sharer * COUPLES + a * MOST_KINDS + b]) {
                    left[b]--;
                    tried[2 * sharer + 1] = box.kindTeeth[b];
                    tryCouple(sharer + 1, together);
                    left[b]++;
                }
            }
        }
    }

    /** A wheel of MACHINE 0 for one of MACHINE 1. */
    private static final class Trading {
        private int hours;
        private long all;
        private long least;
        private boolean isTraded;
        private final int[] traded = new int[4];

        void findTrade(Machine one, Machine other, int byHours) {
            hours = byHours;
            all = sumOff(one) + sumOff(other);
            least = all;
            isTraded = false;
            for (int i = 0; i < one.waveCount; i++) {
                for (int k = 0; k < one.waves[i].wheels(); k++) {
                    tryAll(one.waves[i], other, i, k);
                }
            }
        }

        private long sumOff(Machine m) {
            long sum = 0;
            for (int i = 0; i < m.waveCount; i++) {
                sum += offNow(m.waves[i]);
            }
            return sum;
        }

        private long offNow(Wave w) {
            return w.hasTrain() ? w.offThousandths(w.driving, w.driven, hours) : 0;
        }

        private long offWith(Wave w, int k, int teeth) {
            return w.offThousandths(w.drivingWith(k, teeth), w.drivenWith(k, teeth), hours);
        }

        private void tryAll(Wave mine, Machine other, int i, int k) {
            long rest = all - offNow(mine);
            for (int j = 0; j < other.waveCount; j++) {
                Wave yours = other.waves[j];
                long restOfBoth = rest - offNow(yours);
                for (int l = 0; l < yours.wheels(); l++) {
                    long mineThen = offWith(mine, k, yours.toothed(l));
                    long sum = restOfBoth + mineThen + offWith(yours, l, mine.toothed(k));
                    if (sum < least) {
                        least = sum;
                        isTraded = true;
                        traded[0] = i;
                        traded[1] = k;
                        traded[2] = j;
                        traded[3] = l;
                    }
                }
            }
        }
    }

    /** A GAUGE, and the SETTINGS by it. */
    private static final class Gauge {
        private int many;
        private final int[] hours = new int[MOST_READINGS];
        private final int[] readings = new int[MOST_READINGS];
        private int unknowns;
        private final long[] row = new long[MOST_UNKNOWNS];
        private final long[] squares = new long[MOST_UNKNOWNS * MOST_UNKNOWNS];
        private final long[] right = new long[MOST_UNKNOWNS];
        private long partBottom;

        /** False, if a number can't be. */
        boolean takeFrom(Tray hourTray, Tray readTray, int newMany) {
            many = Math.max(0, Math.min(newMany, MOST_READINGS));
            for (int i = 0; i < many; i++) {
                long hour = hourTray.at(i);
                long read = readTray.at(i);
                if (hour < 0 || hour > LAST_HOUR || read < -999 || read > GAP_READ) {
                    return false;
                }
                hours[i] = (int) hour;
                readings[i] = (int) read;
            }
            return true;
        }

        boolean isGap(int i) {
            return readings[i] == GAP_READ;
        }

        /** By how much the i-th reading differs from a number; a GAP from none. */
        int missOf(int i, int number) {
            return isGap(i) ? 0 : Math.abs(readings[i] - number);
        }

        /** Sums up the least squares of one WAVE, or two; false, if they can't be PARTED. */
        boolean partsWaves(Wave one, Wave other, boolean same) {
            unknowns = same ? 3 : MOST_UNKNOWNS;
            for (int i = 0; i < MOST_UNKNOWNS * MOST_UNKNOWNS; i++) {
                squares[i] = 0;
            }
            for (int i = 0; i < MOST_UNKNOWNS; i++) {
                right[i] = 0;
            }
            for (int i = 0; i < many; i++) {
                if (!isGap(i)) {
                    addReading(i, one, other);
                }
            }
            partBottom = determinant(0, 0, NONE);
            return partBottom > 0;
        }

        private void addReading(int i, Wave one, Wave other) {
            long first = one.trueGone(hours[i]);
            long second = other.trueGone(hours[i]);
            row[0] = 1;
            row[1] = cosOf(first);
            row[2] = cosOf(first - 6);
            row[3] = cosOf(second);
            row[4] = cosOf(second - 6);
            for (int r = 0; r < MOST_UNKNOWNS; r++) {
                right[r] += row[r] * readings[i];
                for (int c = 0; c < MOST_UNKNOWNS; c++) {
                    squares[r * MOST_UNKNOWNS + c] += row[r] * row[c];
                }
            }
        }

        /** By Cramer: the top of an unknown, over partBottom. */
        long partTop(int unknown) {
            return determinant(0, 0, unknown);
        }

        long roundedPart(int unknown) {
            return partBottom <= 0 ? 0 : partTop(unknown) / partBottom;
        }

        /**
         * Of the rows from this one on and the columns not used, one of them (perhaps) replaced by the right side.
         * Sums on the way may wrap around, but no answer does: by Hadamard it is below 3.5 times 10 to the 18th.
         */
        private long determinant(int r, int used, int replaced) {
            if (r >= unknowns || r >= MOST_UNKNOWNS) {
                return 1;
            }
            long sum = 0;
            long sign = 1;
            for (int c = 0; c < unknowns; c++) {
                if ((used >> c & 1) == 0) {
                    long entry = c == replaced ? right[r] : squares[r * MOST_UNKNOWNS + c];
                    sum += entry == 0 ? 0 : sign * entry * determinant(r + 1, used | 1 << c, replaced);
                    sign = -sign;
                }
            }
            return sum;
        }
    }

    /** What is found by the least sum of sizes of differences, each by its latest call. */
    private static final class Findings {
        private static final int MOST_SLIP = 5;
        private static final int MOST_MOVE = 50;
        private static final int MOST_RATIO = 24;

        private final int[] due = new int[SHORT_SPAN];
        private final int[] misses = new int[MOST_READINGS];
        private final int[] shifted = new int[SHORT_SPAN];
        private int leastSum;
        private boolean slipKnown;
        private int slipFrom;
        private int slipBy;
        private int ratio = NONE;
        private int behind;
        private int ledWave = NONE;
        private int ledWheel;
        private boolean ledByMore;
        private boolean spreadKnown;
        private int spreadWave = NONE;
        private int spreadSize;
        private int spreadAt;
        private int spreadSum;

        // ---- a CLOCK SLIPPED, a ZERO MOVED

        void findSlip(Machine m, Gauge g, boolean clock) {
            leastSum = 0;
            for (int i = 0; i < g.many; i++) {
                due[i] = m.heightAt(g.hours[i], false) / 12;
                misses[i] = g.missOf(i, due[i]);
                leastSum += misses[i];
            }
            slipKnown = true;
            slipFrom = 0;
            slipBy = 0;
            int most = clock ? MOST_SLIP : MOST_MOVE;
            for (int size = 1; size <= most; size++) {
                trySlip(m, g, clock, -size);
                trySlip(m, g, clock, size);
            }
        }

        private void trySlip(Machine m, Gauge g, boolean clock, int by) {
            int sum = 0;
            for (int i = 0; i < g.many; i++) {
                int hour = Math.max(0, g.hours[i] + by);
                shifted[i] = g.missOf(i, clock ? m.heightAt(hour, false) / 12 : due[i] + by);
                sum += shifted[i];
            }
            for (int k = 0; k < g.many; k++) {
                if (sum < leastSum) {
                    leastSum = sum;
                    slipFrom = k;
                    slipBy = by;
                }
                sum += misses[k] - shifted[k];
            }
        }

        // ---- NEIGHBOUR

        void findNeighbour(Machine m, Gauge g) {
            ratio = NONE;
            for (int lag = 0; lag < PLACES; lag++) {
                for (int i = 0; i < g.many; i++) {
                    due[i] = m.laggedHeightAt(g.hours[i], lag);
                }
                for (int r = 1; r <= MOST_RATIO; r++) {
                    weighNeighbour(g, lag, r);
                }
            }
        }

        private void weighNeighbour(Gauge g, int lag, int r) {
            int sum = 0;
            for (int i = 0; i < g.many; i++) {
                sum += g.missOf(i, due[i] * r / 144);
            }
            // LAGS are gone through first, so a lesser RATIO may come later
            if (ratio == NONE || sum < leastSum || sum == leastSum && r < ratio) {
                leastSum = sum;
                ratio = r;
                behind = lag;
            }
        }

        // ---- LED

        void findWheel(Machine m, Gauge g) {
            leastSum = 0;
            ledWave = NONE;
            for (int i = 0; i < g.many; i++) {
                due[i] = m.heightAt(g.hours[i], true);
                leastSum += g.missOf(i, due[i] / 12);
            }
            for (int i = 0; i < m.waveCount; i++) {
                for (int k = 0; k < m.waves[i].wheels(); k++) {
                    tryTooth(m.waves[i], g, i, k, true);
                    tryTooth(m.waves[i], g, i, k, false);
                }
            }
        }

        private void tryTooth(Wave w, Gauge g, int wave, int k, boolean more) {
            int teeth = w.toothed(k) + (more ? 1 : -1);
            long driving = w.drivingWith(k, teeth);
            long driven = w.drivenWith(k, teeth);
            int sum = 0;
            for (int i = 0; i < g.many; i++) {
                int now = cosOf(w.placeAt(g.hours[i], true));
                int then = cosOf(w.at + Wave.turnedGone(g.hours[i], driving, driven));
                sum += g.missOf(i, (due[i] + w.size * (then - now)) / 12);
            }
            if (sum < leastSum) {
                leastSum = sum;
                ledWave = wave;
                ledWheel = k;
                ledByMore = more;
            }
        }

        // ---- SPREAD

        void findSpread(Machine m, int broken, int from, int to) {
            int many = Math.min(to - from + 1, SHORT_SPAN);
            Wave b = m.waveAt(broken);
            spreadKnown = true;
            spreadWave = NONE;
            spreadSum = 0;
            for (int i = 0; i < many && b != null; i++) {
                spreadSum += Math.abs(b.size * cosOf(b.placeAt(from + i, false)));
            }
            for (int j = 0; j < m.waveCount && b != null; j++) {
                if (j != broken) {
                    prepareSpread(b, m.waves[j], from, many);
                    trySpread(j, many);
                }
            }
        }

        /** Fills in what a WAVE set anew has to come to, HOUR by HOUR, and its PLACES gone by. */
        private void prepareSpread(Wave broken, Wave other, int from, int many) {
            for (int i = 0; i < many; i++) {
                int lost = broken.size * cosOf(broken.placeAt(from + i, false));
                due[i] = lost + other.size * cosOf(other.placeAt(from + i, false));
                shifted[i] = (int) (other.trueGone(from + i) % PLACES);
            }
        }

        private void trySpread(int wave, int many) {
            for (int at = 0; at < PLACES; at++) {
                int size = bestSize(at, many);
                int sum = sumSpread(size, at, many);
                boolean lesser = sum == spreadSum && spreadWave == wave && size < spreadSize;
                if (sum < spreadSum || lesser) {
                    spreadSum = sum;
                    spreadWave = wave;
                    spreadSize = size;
                    spreadAt = at;
                }
            }
        }

        /** The sum falls with SIZE, then no more (it is convex): the first SIZE behind which it does not fall. */
        private int bestSize(int at, int many) {
            int low = 0;
            int high = 99;
            for (int i = 0; i < 10 && low < high; i++) {
                int middle = (low + high) / 2;
                if (sumSpread(middle + 1, at, many) >= sumSpread(middle, at, many)) {
                    high = middle;
                } else {
                    low = middle + 1;
                }
            }
            return low;
        }

        private int sumSpread(int size, int at, int many) {
            int sum = 0;
            for (int i = 0; i < many; i++) {
                sum += Math.abs(due[i] - size * cosOf(shifted[i] + at));
            }
            return sum;
        }
    }

    /** What LANDING asks. */
    private static final class Landing {
        private int least;
        private int most;
        private int e;
        private boolean rising;
        private int moon = NONE;
        private int places;
        private int from;
        private int to = DAY_HOURS - 1;

        int firstHour(Machine m, int first, int last) {
            for (int hour = first; hour <= last; hour++) {
                if (isInTime(hour) && isMoonFine(m, hour) && isHeightFine(m, hour)) {
                    return hour;
                }
            }
            return NONE;
        }

        private boolean isInTime(int hour) {
            int time = hour % DAY_HOURS;
            return from <= to ? time >= from && time <= to : time >= from || time <= to;
        }

        private boolean isMoonFine(Machine m, int hour) {
            Wave w = m.waveAt(moon);
            return w == null || Math.abs(w.placeAt(hour, false) - 12) <= places;
        }

        private boolean isHeightFine(Machine m, int hour) {
            if (m.boundAt(hour, e, false) < least || m.boundAt(hour, e, true) > most) {
                return false;
            }
            return !rising || m.heightAt(hour + 1, false) > m.heightAt(hour, false);
        }
    }

    /** ORDERS as rows: a STEP or an end each. */
    private static final class Orders {
        private static final int GO = 0;
        private static final int UNTIL = 1;
        private static final int MARK = 2;
        private static final int READ = 3;
        private static final int LOOP = 4;
        private static final int WHEN = 5;
        private static final int END = 6;

        private static final int NO_TEST = 0;
        private static final int HIGH = 1;
        private static final int LOW = 2;
        private static final int ABOVE = 3;
        private static final int BELOW = 4;

        private final int[] deeds = new int[MOST_ROWS];
        private final int[] tests = new int[MOST_ROWS];
        private final int[] numbers = new int[MOST_ROWS];
        /** Of a loop or when the row of its end, of an end that of its loop or when. */
        private final int[] partners = new int[MOST_ROWS];
        private int rows;
        private int steps;
        private final int[] open = new int[MOST_NESTED];
        private int depth;

        boolean readFrom(Tokens text) {
            rows = 0;
            steps = 0;
            depth = 0;
            for (int i = 0; i <= MOST_ROWS; i++) {
                if (text.isAtEnd()) {
                    return depth == 0 || text.refuse(Tokens.FAULT_CANT_STAND);
                }
                boolean read = text.isWord("end") ? readsEnd(text) : readsStep(text);
                if (!read) {
                    return false;
                }
            }
            return text.refuse(Tokens.FAULT_TOO_MANY);
        }

        private boolean readsEnd(Tokens text) {
            if (depth <= 0 || rows >= MOST_ROWS) {
                return text.refuse(Tokens.FAULT_CANT_STAND);
            }
            text.advance();
            depth--;
            int opener = open[depth];
            deeds[rows] = END;
            partners[rows] = opener;
            partners[opener] = rows;
            rows++;
            return text.takesSign();
        }

        private boolean readsStep(Tokens text) {
            int deed = deedOf(text);
            if (deed == NONE) {
                return text.refuse(Tokens.FAULT_CANT_STAND);
            }
            boolean opens = deed == LOOP || deed == WHEN;
            if (opens && depth >= MOST_NESTED) {
                return text.refuse(Tokens.FAULT_AGAIN);
            }
            if (steps >= MOST_STEPS || rows >= MOST_ROWS) {
                return text.refuse(Tokens.FAULT_TOO_MANY);
            }
            text.advance();
            deeds[rows] = deed;
            tests[rows] = NO_TEST;
            numbers[rows] = 0;
            if (!readsRest(text, deed) || !text.takesSign()) {
                return false;
            }
            if (opens) {
                open[depth] = rows;
                depth++;
            }
            rows++;
            steps++;
            return true;
        }

        private static int deedOf(Tokens text) {
            if (text.isWord("go")) {
                return GO;
            }
            if (text.isWord("until")) {
                return UNTIL;
            }
            if (text.isWord("mark")) {
                return MARK;
            }
            if (text.isWord("read")) {
                return READ;
            }
            if (text.isWord("loop")) {
                return LOOP;
            }
            return text.isWord("when") ? WHEN : NONE;
        }

        /** What stands between the WORD of a STEP and the SIGN behind it. */
        private boolean readsRest(Tokens text, int deed) {
            switch (deed) {
                case GO: return readsNumber(text, 0, 9999);
                case LOOP: return readsNumber(text, 1, 9);
                case UNTIL: return readsWater(text) || readsLevel(text);
                case WHEN: return readsLevel(text);
                default: return true;
            }
        }

        private boolean readsNumber(Tokens text, int least, int most) {
            if (!text.standsNumber(least, most)) {
                return false;
            }
            numbers[rows] = text.value;
            text.advance();
            return true;
        }

        private boolean readsWater(Tokens text) {
            boolean high = text.isWord("high");
            if (!high && !text.isWord("low")) {
                return false;
            }
            tests[rows] = high ? HIGH : LOW;
            text.advance();
            return true;
        }

        private boolean readsLevel(Tokens text) {
            boolean above = text.isWord("above");
            if (!above && !text.isWord("below")) {
                return text.refuse(Tokens.FAULT_CANT_STAND);
            }
            tests[rows] = above ? ABOVE : BELOW;
            text.advance();
            boolean less = text.isWord("less");
            if (less) {
                text.advance();
            }
            if (!readsNumber(text, 0, 9999)) {
                return false;
            }
            numbers[rows] = less ? -numbers[rows] : numbers[rows];
            return true;
        }
    }

    /** How ORDERS were OBEYED latest. */
    private static final class Walk {
        private Orders program;
        private Machine machine;
        private int row;
        private boolean isOver;
        private final int[] roundsLeft = new int[MOST_ROWS];
        private boolean known;
        private int hour;
        private int steps;
        private long register;
        private int marks;
        private final int[] markedHours = new int[MOST_MARKS];
        private boolean stepLeft;

        void goThrough(Orders orders, Machine m, int from) {
            program = orders;
            machine = m;
            hour = from;
            row = 0;
            isOver = false;
            known = true;
            steps = 0;
            register = 0;
            marks = 0;
            passEnds();
            for (int i = 0; i < MOST_OBEYED && !isOver && row < program.rows; i++) {
                steps++;
                doStep();
                passEnds();
            }
            stepLeft = row < program.rows;
        }

        /** Goes to the next STEP, or behind all rows. */
        private void passEnds() {
            // an empty loop has its end passed at most nine times, and ends stand at most three behind one another
            for (int i = 0; i < 1000 && row < program.rows && program.deeds[row] == Orders.END; i++) {
                int opener = program.partners[row];
                roundsLeft[opener]--;
                row = roundsLeft[opener] > 0 ? opener + 1 : row + 1;
            }
        }

        private void doStep() {
            int number = program.numbers[row];
            int next = row + 1;
            switch (program.deeds[row]) {
                case Orders.GO:
                    goTo(hour + number);
                    break;
                case Orders.UNTIL:
                    goUntil(program.tests[row], number);
                    break;
                case Orders.MARK:
                    markHour();
                    break;
                case Orders.READ:
                    register += machine.heightAt(hour, true);
                    break;
                case Orders.LOOP:
                    roundsLeft[row] = number;
                    break;
                default:
                    roundsLeft[row] = 1;
                    next = isLevel(program.tests[row], number) ? next : program.partners[row] + 1;
                    break;
            }
            row = next;
        }

        private void goTo(int later) {
            isOver = later > LAST_HOUR;
            hour = isOver ? LAST_HOUR : later;
        }

        private void markHour() {
            if (marks < MOST_MARKS) {
                markedHours[marks] = hour;
                marks++;
            }
        }

        private boolean isLevel(int test, int number) {
            int height = machine.heightAt(hour, true);
            return test == Orders.ABOVE ? height > number : height < number;
        }

        private void goUntil(int test, int number) {
            int found = NONE;
            if (test == Orders.HIGH || test == Orders.LOW) {
                found = machine.nextWater(hour + 1, LAST_HOUR, test == Orders.HIGH, true);
            } else if (canReach(test, number)) {
                found = nextLevel(test, number);
            }
            goTo(found == NONE ? LAST_HOUR + 1 : found);
        }

        /** Spares a long walk towards a HEIGHT that no HOUR can have. */
        private boolean canReach(int test, int number) {
            int swing = machine.mostSwing();
            int middle = machine.zeroHeight();
            return test == Orders.ABOVE ? middle + swing > number : middle - swing < number;
        }

        private int nextLevel(int test, int number) {
            for (int later = hour + 1; later <= LAST_HOUR; later++) {
                int height = machine.heightAt(later, true);
                if (test == Orders.ABOVE ? height > number : height < number) {
                    return later;
                }
            }
            return NONE;
        }
    }
}
