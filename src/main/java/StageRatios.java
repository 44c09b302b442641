import java.util.NoSuchElementException;

/**
 * Rockets divided into stages: told as a text, weighed, divided by hand or at their best,
 * flown tick by tick, changed and undone. ../shared/DOC.md says what every call promises.
 */
public final class StageRatios {
    public static final int NONE = -1;

    /** The answer of calls that are not refused and find nothing. */
    private static final int NOTHING = -2;

    // TROUBLE
    private static final int NO_SUCH = 1;
    private static final int A_NUMBER = 2;
    private static final int A_FAULT = 4;
    private static final int NOT_SO = 5;

    private static final int MOST_STAGES = 3;
    private static final int MOST_FAILS = 6;
    private static final int MOST_FUEL = 16;
    private static final int MOST_PAYLOAD = 40;
    private static final int MOST_POWER = 12;
    private static final int HIGHEST = 40;
    private static final int LAST_TICK = 99;

    // The places of a row that tells how things stand: PAYLOAD, POWER, FUEL, LOW and HIGH of each STAGE.
    private static final int AT_PAYLOAD = 0;
    private static final int AT_POWER = 1;
    private static final int AT_FUEL = 2;
    private static final int AT_LOW = 5;
    private static final int AT_HIGH = 8;
    private static final int ROW = 11;
    private static final int MOST_KEPT = 10;

    private final Tape tape;
    private final Reader reader;
    private final int[] now;
    private final int[] past;
    private final Weights weights;
    private final Weights another;
    private final Ratio ratio;
    private final Ratio second;
    private final Scale scale;
    private final Choice choice;
    private final Front outline;
    private final Flight course;
    private final Flight trial;
    private Rocket current;
    private Rocket draft;
    private boolean told;
    private int kept;
    private int changes;
    private int trouble;
    private int latestFault;

    public StageRatios() {
        tape = new Tape();
        reader = new Reader(tape);
        now = new int[ROW];
        past = new int[ROW * MOST_KEPT];
        weights = new Weights();
        another = new Weights();
        ratio = new Ratio();
        second = new Ratio();
        scale = new Scale();
        choice = new Choice(scale);
        outline = new Front(choice, scale);
        course = new Flight();
        trial = new Flight();
        current = new Rocket();
        draft = new Rocket();
        told = false;
        kept = 0;
        changes = 0;
        trouble = 0;
        latestFault = 0;
    }

    // ---- the rocket

    public int feed(int a, int b, int c, int d, int e) {
        if (!tape.hasRoom(20)) {
            return NONE;
        }
        tape.append(a);
        tape.append(b);
        tape.append(c);
        tape.append(d);
        tape.append(e);
        return tape.held;
    }

    public int rocket(int n) {
        if (n < 0 || n > tape.held) {
            return refuse(A_NUMBER);
        }
        boolean sound = reader.read(n, draft);
        tape.clear();
        latestFault = reader.number;
        if (!sound) {
            return refuse(A_FAULT);
        }
        Rocket before = current;
        current = draft;
        draft = before;
        told = true;
        kept = 0;
        choice.forget();
        layFirst();
        return answer(current.stages);
    }

    public int fault() {
        return latestFault;
    }

    public int where() {
        return trouble == A_FAULT ? reader.place : NONE;
    }

    public int about(int what) {
        if (!told || what < 0 || what > 6) {
            return refuse(NO_SUCH);
        }
        switch (what) {
            case 0:
                return answer(at(now, AT_PAYLOAD));
            case 1:
                return answer(current.upper);
            case 2:
                return answer(current.lower);
            case 3:
                return answer(at(now, AT_POWER));
            case 4:
                return answer(current.pull);
            case 5:
                return answer(current.stages);
            default:
                return answer(current.fails);
        }
    }

    public int stage(int s, int what) {
        if (!has(s) || what < 0 || what > Rocket.FACTS) {
            return refuse(NO_SUCH);
        }
        if (what == Rocket.FACTS) {
            return answer(current.shell(s, at(now, AT_FUEL + s)));
        }
        return answer(current.fact(s, what));
    }

    // ---- the division as it is

    public int part(int s, int what) {
        if (!has(s) || what < 0 || what > 4) {
            return refuse(NO_SUCH);
        }
        weighAsItIs();
        switch (what) {
            case 0:
                return answer(at(weights.units, s));
            case 1:
                return answer(at(weights.start, s));
            case 2:
                return answer(at(weights.end, s));
            case 3:
                return answer(weights.holdsAt(current, s) ? 1 : 0);
            default:
                return answer(weights.pushWithout(current, s, current.fact(s, Rocket.OUT)));
        }
    }

    public int margin(int s, int out) {
        if (!has(s)) {
            return refuse(NO_SUCH);
        }
        if (out < 0 || out > current.fact(s, Rocket.ENGINES)) {
            return refuse(A_NUMBER);
        }
        weighAsItIs();
        return answer(weights.pushWithout(current, s, out));
    }

    public int spare(int s) {
        if (!has(s)) {
            return refuse(NO_SUCH);
        }
        weighAsItIs();
        int wanted = current.fact(s, Rocket.LEAST);
        for (int out = current.fact(s, Rocket.ENGINES); out >= 0; out--) {
            if (weights.pushWithout(current, s, out) >= wanted) {
                return answer(out);
            }
        }
        return answer(NOTHING);
    }

    public int mass() {
        if (!told) {
            return refuse(NO_SUCH);
        }
        weighAsItIs();
        return answer(weights.whole);
    }

    public int reaches(int power) {
        if (!told) {
            return refuse(NO_SUCH);
        }
        if (!isPower(power)) {
            return refuse(A_NUMBER);
        }
        return answer(powerAsItIs() >= power ? 1 : 0);
    }

    public int greatest() {
        if (!told) {
            return refuse(NO_SUCH);
        }
        return answer(powerAsItIs());
    }

    public int speed(boolean upper) {
        if (!told) {
            return refuse(NO_SUCH);
        }
        weighAsItIs();
        weights.speedInto(current, ratio);
        return answer(ratio.lowest(upper));
    }

    public int holds() {
        if (!told) {
            return refuse(NO_SUCH);
        }
        weighAsItIs();
        return answer(weights.holdsAll(current) ? 1 : 0);
    }

    public int richer(int s, int other) {
        if (!has(s) || !has(other) || s == other) {
            refuse(NO_SUCH);
            return NOTHING;
        }
        if (isFull(s) || isFull(other)) {
            refuse(NOT_SO);
            return NOTHING;
        }
        weighWithOneMore(s);
        weights.speedInto(current, ratio);
        weighWithOneMore(other);
        weights.speedInto(current, second);
        return answer(scale.compare(ratio, second));
    }

    // ---- the best

    public int least(int power) {
        if (!told) {
            return refuse(NO_SUCH);
        }
        if (!isPower(power)) {
            return refuse(A_NUMBER);
        }
        choice.prepare(current, now, weights);
        int best = choice.best(power);
        return answer(best < 0 ? NOTHING : choice.weightOf(best));
    }

    public int fuel(int power, int s) {
        if (!has(s)) {
            return refuse(NO_SUCH);
        }
        if (!isPower(power)) {
            return refuse(A_NUMBER);
        }
        choice.prepare(current, now, weights);
        int best = choice.best(power);
        return answer(best < 0 ? NOTHING : Choice.unitsOf(best, s));
    }

    public int farthest() {
        if (!told) {
            return refuse(NO_SUCH);
        }
        choice.prepare(current, now, weights);
        return answer(choice.highestPower());
    }

    public int lifts() {
        if (!told) {
            return refuse(NO_SUCH);
        }
        choice.prepare(current, now, weights);
        return answer(choice.heaviestLoad(current, at(now, AT_POWER), weights));
    }

    public int needs(int s) {
        if (!has(s)) {
            return refuse(NO_SUCH);
        }
        choice.prepare(current, now, weights);
        int best = choice.best(at(now, AT_POWER));
        choice.bound(s, 0, 0);
        int without = choice.best(at(now, AT_POWER));
        if (best < 0 || without < 0) {
            return answer(NOTHING);
        }
        return answer(choice.weightOf(without) - choice.weightOf(best));
    }

    public int fronts() {
        if (!told) {
            return refuse(NO_SUCH);
        }
        choice.prepare(current, now, weights);
        outline.draw(current, at(now, AT_PAYLOAD), changes);
        return answer(outline.count);
    }

    public int front(int i, int what) {
        if (!told || i < 0 || what < 0 || what > 4) {
            return refuse(NO_SUCH);
        }
        choice.prepare(current, now, weights);
        outline.draw(current, at(now, AT_PAYLOAD), changes);
        if (i >= outline.count) {
            return refuse(NO_SUCH);
        }
        int code = at(outline.codes, i);
        if (what == 0) {
            return answer(choice.weightOf(code));
        }
        if (what == 1) {
            return answer(choice.powerOf(code));
        }
        return answer(what - 2 < current.stages ? Choice.unitsOf(code, what - 2) : NOTHING);
    }

    public int beaten() {
        if (!told) {
            return refuse(NO_SUCH);
        }
        choice.prepare(current, now, weights);
        outline.draw(current, at(now, AT_PAYLOAD), changes);
        weighAsItIs();
        weights.speedInto(current, ratio);
        for (int i = 0; i < outline.count; i++) {
            int code = at(outline.codes, i);
            int lighter = weights.whole - choice.weightOf(code);
            another.weighCode(current, at(now, AT_PAYLOAD), code);
            another.speedInto(current, second);
            int faster = scale.compare(second, ratio);
            if (lighter >= 0 && faster >= 0 && (lighter > 0 || faster > 0)) {
                return answer(1);
            }
        }
        return answer(0);
    }

    public int box(int s, boolean upper) {
        if (!has(s)) {
            return refuse(NO_SUCH);
        }
        return answer(at(now, (upper ? AT_HIGH : AT_LOW) + s));
    }

    public int range(int power, int s, boolean upper) {
        if (!has(s)) {
            return refuse(NO_SUCH);
        }
        if (!isPower(power)) {
            return refuse(A_NUMBER);
        }
        choice.prepare(current, now, weights);
        return answer(choice.extreme(power, s, upper));
    }

    public int ways(int power) {
        if (!told) {
            return refuse(NO_SUCH);
        }
        if (!isPower(power)) {
            return refuse(A_NUMBER);
        }
        choice.prepare(current, now, weights);
        return answer(choice.count(power));
    }

    // ---- the flight of the division as it is

    public int flight(int what) {
        if (!told || what < 0 || what > 5) {
            return refuse(NO_SUCH);
        }
        flyAsItIs();
        switch (what) {
            case 0:
                return answer(course.ticks);
            case 1:
                return answer(course.leastPush());
            case 2:
                return answer(course.firstOfLeastPush());
            case 3:
                return answer(course.dropped);
            case 4:
                return answer(course.stopped);
            default:
                return answer(powerFlown(course));
        }
    }

    public int tick(int t, int what) {
        if (!told || t < 1 || what < 0 || what > 4) {
            return refuse(NO_SUCH);
        }
        flyAsItIs();
        if (t > course.ticks) {
            return refuse(NO_SUCH);
        }
        switch (what) {
            case 0:
                return answer(at(course.stageAt, t - 1));
            case 1:
                return answer(at(course.ahead, t - 1));
            case 2:
                return answer(at(course.behind, t - 1));
            case 3:
                return answer(at(course.running, t - 1));
            default:
                return answer(at(course.push, t - 1));
        }
    }

    public int risk(int s, int tick) {
        if (!has(s)) {
            return refuse(NO_SUCH);
        }
        if (tick < 1 || tick > LAST_TICK) {
            return refuse(A_NUMBER);
        }
        weighAsItIs();
        return answer(powerAtRisk(s, tick));
    }

    public int riskiest() {
        if (!told) {
            return refuse(NO_SUCH);
        }
        flyAsItIs();
        int found = NOTHING;
        int least = HIGHEST + 1;
        for (int i = 0; i < course.ticks; i++) {
            int reached = powerAtRisk(at(course.stageAt, i), at(course.tickOfBurn, i));
            if (reached < least) {
                least = reached;
                found = i + 1;
            }
        }
        return answer(found);
    }

    public int arrives() {
        if (!told) {
            return refuse(NO_SUCH);
        }
        flyAsItIs();
        return answer(powerFlown(course) >= at(now, AT_POWER) ? 1 : 0);
    }

    public int flown(boolean upper) {
        if (!told) {
            return refuse(NO_SUCH);
        }
        flyAsItIs();
        return answer(course.product.lowest(upper));
    }

    // ---- acts

    public int bounds(int s, int low, int high) {
        if (!has(s)) {
            return refuse(NO_SUCH);
        }
        if (low < 0 || low > high || high > current.fact(s, Rocket.MOST)) {
            return refuse(A_NUMBER);
        }
        int before = at(now, AT_HIGH + s) - at(now, AT_LOW + s);
        keep();
        put(now, AT_LOW + s, low);
        put(now, AT_HIGH + s, high);
        return answer(before);
    }

    public int load(int s, int fuel) {
        if (!has(s)) {
            return refuse(NO_SUCH);
        }
        if (fuel < 0 || fuel > current.fact(s, Rocket.MOST)) {
            return refuse(A_NUMBER);
        }
        return answer(change(AT_FUEL + s, fuel));
    }

    public int adopt() {
        if (!told) {
            return refuse(NO_SUCH);
        }
        choice.prepare(current, now, weights);
        int best = choice.best(at(now, AT_POWER));
        if (best < 0) {
            return refuse(NOT_SO);
        }
        keep();
        for (int s = 0; s < MOST_STAGES; s++) {
            put(now, AT_FUEL + s, Choice.unitsOf(best, s));
        }
        return answer(choice.weightOf(best));
    }

    public int payload(int v) {
        if (!told) {
            return refuse(NO_SUCH);
        }
        if (v < 1 || v > MOST_PAYLOAD) {
            return refuse(A_NUMBER);
        }
        return answer(change(AT_PAYLOAD, v));
    }

    public int power(int v) {
        if (!told) {
            return refuse(NO_SUCH);
        }
        if (v < 1 || v > MOST_POWER) {
            return refuse(A_NUMBER);
        }
        return answer(change(AT_POWER, v));
    }

    public boolean undo() {
        if (!told || kept < 1) {
            refuse(NO_SUCH);
            return false;
        }
        kept--;
        changes++;
        for (int i = 0; i < ROW; i++) {
            put(now, i, at(past, kept * ROW + i));
        }
        answer(0);
        return true;
    }

    // ---- what is told

    public int weak(int i) throws NoSuchElementException {
        int found = weakest(i);
        if (found < 0) {
            throw new NoSuchElementException();
        }
        return found;
    }

    public int size(int what) {
        if (what == 0) {
            return tape.held;
        }
        return what == 1 ? kept : NONE;
    }

    public int trouble() {
        return trouble;
    }

    // ---- what the calls share

    private int refuse(int number) {
        trouble = number;
        return NONE;
    }

    private int answer(int value) {
        trouble = 0;
        return value;
    }

    private boolean has(int s) {
        return told && s >= 0 && s < current.stages;
    }

    private static boolean isPower(int k) {
        return k >= 0 && k <= HIGHEST;
    }

    private boolean isFull(int s) {
        return at(now, AT_FUEL + s) >= current.fact(s, Rocket.MOST);
    }

    private void layFirst() {
        changes++;
        put(now, AT_PAYLOAD, current.firstPayload);
        put(now, AT_POWER, current.firstPower);
        for (int s = 0; s < MOST_STAGES; s++) {
            int most = s < current.stages ? current.fact(s, Rocket.MOST) : 0;
            put(now, AT_FUEL + s, most);
            put(now, AT_LOW + s, 0);
            put(now, AT_HIGH + s, most);
        }
    }

    /** Keeps how things stand ahead of an ACT; the oldest is forgotten when there is no more room. */
    private void keep() {
        if (kept >= MOST_KEPT) {
            for (int i = 0; i < ROW * (MOST_KEPT - 1); i++) {
                put(past, i, at(past, i + ROW));
            }
            kept = MOST_KEPT - 1;
        }
        for (int i = 0; i < ROW; i++) {
            put(past, kept * ROW + i, at(now, i));
        }
        kept++;
        changes++;
    }

    private int change(int place, int value) {
        int before = at(now, place);
        keep();
        put(now, place, value);
        return before;
    }

    private void layUnits() {
        for (int s = 0; s < MOST_STAGES; s++) {
            put(weights.units, s, at(now, AT_FUEL + s));
        }
    }

    private void weighAsItIs() {
        layUnits();
        weights.weigh(current, at(now, AT_PAYLOAD));
    }

    private void weighWithOneMore(int s) {
        layUnits();
        put(weights.units, s, at(now, AT_FUEL + s) + 1);
        weights.weigh(current, at(now, AT_PAYLOAD));
    }

    private int powerAsItIs() {
        weighAsItIs();
        weights.speedInto(current, ratio);
        return scale.powerOf(ratio, current.upper, current.lower);
    }

    private void flyAsItIs() {
        weighAsItIs();
        course.fly(current, weights, NONE, 0);
    }

    private int powerFlown(Flight flight) {
        return scale.powerOf(flight.product, current.upper, current.lower);
    }

    private int powerAtRisk(int s, int tickOfBurn) {
        trial.fly(current, weights, s, tickOfBurn);
        return powerFlown(trial);
    }

    private int weakest(int i) {
        if (!told || i < 0) {
            return NONE;
        }
        weighAsItIs();
        int left = i;
        for (int s = 0; s < current.stages; s++) {
            if (!weights.holdsAt(current, s)) {
                if (left == 0) {
                    return s;
                }
                left--;
            }
        }
        return NONE;
    }

    private static int at(int[] row, int i) {
        return row != null && i >= 0 && i < row.length ? row[i] : 0;
    }

    private static void put(int[] row, int i, int value) {
        if (row != null && i >= 0 && i < row.length) {
            row[i] = value;
        }
    }

    /** THE TAPE, and the TOKENS of its first bytes, one at a time. */
    private static final class Tape {
        static final int ROOM = 700;
        static final int END = 0;
        static final int WORD = 1;
        static final int WHOLE = 2;
        static final int PARTING = 3;
        static final int STRANGE = 4;
        private static final int LONGEST_WORD = 7;
        private static final int LONGEST_WHOLE = 3;

        private final int[] bytes = new int[ROOM];
        int held = 0;
        int kind = END;
        int place = 0;
        long value = 0;
        private int end = 0;
        private int next = 0;

        boolean hasRoom(int more) {
            return held + more <= ROOM;
        }

        void append(int number) {
            for (int shift = 24; shift >= 0; shift -= 8) {
                put(bytes, held, (number >>> shift) & 255);
                held++;
            }
        }

        void clear() {
            held = 0;
        }

        void begin(int n) {
            end = n;
            next = 0;
            step();
        }

        /** Goes on to the next TOKEN: bytes that stand together are one, so a run that is too long is none at all. */
        void step() {
            while (next < end && byteAt(next) == ' ') {
                next++;
            }
            place = next;
            value = 0;
            kind = next < end ? kindOf(byteAt(next)) : END;
            boolean word = kind == WORD;
            if (!word && kind != WHOLE) {
                next += kind == END ? 0 : 1;
                return;
            }
            while (next < end && kindOf(byteAt(next)) == kind) {
                value = word ? withLetter(value, byteAt(next)) : value * 10 + byteAt(next) - '0';
                next++;
            }
            if (next - place > (word ? LONGEST_WORD : LONGEST_WHOLE)) {
                kind = STRANGE;
            }
        }

        private int byteAt(int i) {
            return i >= 0 && i < bytes.length ? bytes[i] : 0;
        }

        private static int kindOf(int b) {
            if (b >= 'a' && b <= 'z') {
                return WORD;
            }
            if (b >= '0' && b <= '9') {
                return WHOLE;
            }
            return b == ';' ? PARTING : STRANGE;
        }

        /** A WORD counts as one number: up to seven letters of 27 signs each fit a long. */
        static long numberOf(String word) {
            long number = 0;
            for (int i = 0; i < word.length(); i++) {
                number = withLetter(number, word.charAt(i));
            }
            return number;
        }

        private static long withLetter(long number, int letter) {
            return number * 27 + (letter - 'a' + 1);
        }
    }

    /** Reads a ROCKET from THE TAPE up to the first FAULT. */
    private static final class Reader {
        private static final int FORM = 1;
        private static final int NOT_TOLD = 2;
        private static final int AGAIN = 3;
        private static final int OUT_OF_BOUNDS = 4;
        private static final int MANY = 5;
        private static final int LACKS = 6;

        private final Tape tape;
        private final long[] names = new long[MOST_STAGES];
        private final long rocketWord = Tape.numberOf("rocket");
        private final long stageWord = Tape.numberOf("stage");
        private final long failWord = Tape.numberOf("fail");
        private final long solidWord = Tape.numberOf("solid");
        private final long oilWord = Tape.numberOf("oil");
        private final long gasWord = Tape.numberOf("gas");
        private boolean begun = false;
        private int taken = 0;
        int number = 0;
        int place = 0;

        Reader(Tape tape) {
            this.tape = tape;
        }

        boolean read(int n, Rocket into) {
            number = 0;
            place = 0;
            begun = false;
            into.clear();
            tape.begin(n);
            boolean more = true;
            for (int lines = 0; more && lines <= Tape.ROOM; lines++) {
                if (!readLine(into)) {
                    return false;
                }
                more = tape.kind != Tape.END;
                if (more && tape.kind != Tape.PARTING) {
                    return stop(FORM);
                }
                if (more) {
                    tape.step();
                }
            }
            return into.stages > 0 || stop(LACKS);
        }

        private boolean stop(int fault) {
            number = fault;
            place = tape.place;
            return false;
        }

        private boolean readLine(Rocket into) {
            if (tape.kind != Tape.WORD) {
                return stop(FORM);
            }
            if (tape.value == rocketWord) {
                return begun ? stop(AGAIN) : readRocket(into);
            }
            if (tape.value == stageWord) {
                return hasRoomFor(into.stages, MOST_STAGES) && readStage(into);
            }
            if (tape.value == failWord) {
                return hasRoomFor(into.fails, MOST_FAILS) && readFail(into);
            }
            return stop(FORM);
        }

        private boolean hasRoomFor(int lines, int most) {
            if (!begun) {
                return stop(LACKS);
            }
            return lines < most || stop(MANY);
        }

        private boolean readRocket(Rocket into) {
            begun = true;
            tape.step();
            if (!takeWord("payload") || !takeWhole(1, MOST_PAYLOAD)) {
                return false;
            }
            into.firstPayload = taken;
            if (!takeWord("mark") || !takeWhole(2, 99)) {
                return false;
            }
            into.upper = taken;
            if (!takeWord("by") || !takeWhole(1, into.upper - 1)) {
                return false;
            }
            into.lower = taken;
            if (!takeWord("power") || !takeWhole(1, MOST_POWER)) {
                return false;
            }
            into.firstPower = taken;
            if (!takeWord("pull") || !takeWhole(0, 99)) {
                return false;
            }
            into.pull = taken;
            return true;
        }

        private boolean readStage(Rocket into) {
            int s = into.stages;
            tape.step();
            if (!takeNewName(s) || !takeKind(into, s)) {
                return false;
            }
            for (int what = Rocket.DRY; what <= Rocket.OUT; what++) {
                int high = what == Rocket.OUT ? into.fact(s, Rocket.ENGINES) - 1 : Rocket.highBoundOf(what);
                if (!takeWord(Rocket.wordOf(what)) || !takeWhole(Rocket.lowBoundOf(what), high)) {
                    return false;
                }
                into.setFact(s, what, taken);
            }
            into.stages++;
            return true;
        }

        private boolean readFail(Rocket into) {
            tape.step();
            if (!isName()) {
                return stop(FORM);
            }
            int s = nameAt(tape.value, into.stages);
            if (s < 0) {
                return stop(NOT_TOLD);
            }
            tape.step();
            if (!takeWhole(into.lastFailOf(s) + 1, LAST_TICK)) {
                return false;
            }
            int tick = taken;
            if (!takeWhole(1, 9)) {
                return false;
            }
            into.addFail(s, tick, taken);
            return true;
        }

        private boolean isName() {
            return tape.kind == Tape.WORD && tape.value != rocketWord && tape.value != stageWord
                && tape.value != failWord;
        }

        private int nameAt(long name, int stages) {
            for (int s = 0; s < stages && s < names.length; s++) {
                if (names[s] == name) {
                    return s;
                }
            }
            return NONE;
        }

        private boolean takeNewName(int s) {
            if (!isName()) {
                return stop(FORM);
            }
            if (nameAt(tape.value, s) >= 0) {
                return stop(AGAIN);
            }
            if (s >= 0 && s < names.length) {
                names[s] = tape.value;
            }
            tape.step();
            return true;
        }

        private boolean takeKind(Rocket into, int s) {
            int grade = tape.kind == Tape.WORD ? gradeOf(tape.value) : 0;
            if (grade == 0) {
                return stop(FORM);
            }
            into.setFact(s, Rocket.GRADE, grade);
            tape.step();
            return true;
        }

        private int gradeOf(long word) {
            if (word == solidWord) {
                return Rocket.SOLID;
            }
            if (word == oilWord) {
                return Rocket.OIL;
            }
            return word == gasWord ? Rocket.GAS : 0;
        }

        private boolean takeWord(String word) {
            if (tape.kind != Tape.WORD || tape.value != Tape.numberOf(word)) {
                return stop(FORM);
            }
            tape.step();
            return true;
        }

        private boolean takeWhole(int low, int high) {
            if (tape.kind != Tape.WHOLE) {
                return stop(FORM);
            }
            if (tape.value < low || tape.value > high) {
                return stop(OUT_OF_BOUNDS);
            }
            taken = (int) tape.value;
            tape.step();
            return true;
        }
    }

    /** A ROCKET as its text tells it. */
    private static final class Rocket {
        static final int GRADE = 0;
        static final int DRY = 1;
        static final int TANK = 2;
        static final int MOST = 3;
        static final int ENGINES = 4;
        static final int THRUST = 5;
        static final int FLOW = 6;
        static final int LEAST = 7;
        static final int OUT = 8;
        static final int FACTS = 9;
        static final int SOLID = 2;
        static final int OIL = 3;
        static final int GAS = 4;

        int firstPayload = 1;
        int firstPower = 1;
        int upper = 2;
        int lower = 1;
        int pull = 0;
        int stages = 0;
        int fails = 0;
        private final int[] facts = new int[MOST_STAGES * FACTS];
        private final int[] failStage = new int[MOST_FAILS];
        private final int[] failTick = new int[MOST_FAILS];
        private final int[] failCount = new int[MOST_FAILS];

        void clear() {
            stages = 0;
            fails = 0;
        }

        static String wordOf(int what) {
            switch (what) {
                case DRY:
                    return "dry";
                case TANK:
                    return "tank";
                case MOST:
                    return "most";
                case ENGINES:
                    return "engines";
                case THRUST:
                    return "thrust";
                case FLOW:
                    return "flow";
                case LEAST:
                    return "least";
                default:
                    return "out";
            }
        }

        static int lowBoundOf(int what) {
            return what == TANK || what == LEAST || what == OUT ? 0 : 1;
        }

        /** OUT is not here: it hangs on ENGINES. */
        static int highBoundOf(int what) {
            switch (what) {
                case DRY:
                    return 50;
                case TANK:
                    return 90;
                case MOST:
                    return MOST_FUEL;
                case THRUST:
                    return 999;
                case LEAST:
                    return 400;
                default:
                    return 9;
            }
        }

        int fact(int s, int what) {
            int i = s * FACTS + what;
            return i >= 0 && i < facts.length ? facts[i] : 0;
        }

        void setFact(int s, int what, int value) {
            put(facts, s * FACTS + what, value);
        }

        void addFail(int s, int tick, int engines) {
            put(failStage, fails, s);
            put(failTick, fails, tick);
            put(failCount, fails, engines);
            fails++;
        }

        /** TICKS of one STAGE rise, so its last one told is its greatest; 0 if none is told. */
        int lastFailOf(int s) {
            int last = 0;
            for (int i = 0; i < fails; i++) {
                if (at(failStage, i) == s) {
                    last = at(failTick, i);
                }
            }
            return last;
        }

        int failing(int s, int tick) {
            int engines = 0;
            for (int i = 0; i < fails; i++) {
                if (at(failStage, i) == s && at(failTick, i) == tick) {
                    engines += at(failCount, i);
                }
            }
            return engines;
        }

        int shell(int s, int units) {
            int tank = (units * fact(s, TANK) + 99) / 100;
            int more = fact(s, GRADE) == GAS ? fact(s, DRY) / 2 : 0;
            return fact(s, DRY) + tank + more;
        }
    }

    /** A DIVISION and what it weighs. */
    private static final class Weights {
        final int[] units = new int[MOST_STAGES];
        final int[] start = new int[MOST_STAGES];
        final int[] end = new int[MOST_STAGES];
        int whole = 0;

        void weigh(Rocket rocket, int load) {
            int flies = load;
            for (int s = rocket.stages - 1; s >= 0; s--) {
                int above = flies + rocket.shell(s, at(units, s));
                flies = above + at(units, s);
                put(end, s, above);
                put(start, s, flies);
            }
            whole = flies;
        }

        void layCode(int code) {
            for (int s = 0; s < MOST_STAGES; s++) {
                put(units, s, Choice.unitsOf(code, s));
            }
        }

        void weighCode(Rocket rocket, int load, int code) {
            layCode(code);
            weigh(rocket, load);
        }

        /** MARGIN. */
        int pushWithout(Rocket rocket, int s, int out) {
            int thrust = rocket.fact(s, Rocket.THRUST) * (rocket.fact(s, Rocket.ENGINES) - out);
            return hundredfold(thrust, at(start, s));
        }

        boolean holdsAt(Rocket rocket, int s) {
            return pushWithout(rocket, s, rocket.fact(s, Rocket.OUT)) >= rocket.fact(s, Rocket.LEAST);
        }

        boolean holdsAll(Rocket rocket) {
            for (int s = 0; s < rocket.stages; s++) {
                if (!holdsAt(rocket, s)) {
                    return false;
                }
            }
            return true;
        }

        void speedInto(Rocket rocket, Ratio speed) {
            speed.clear();
            for (int s = 0; s < rocket.stages; s++) {
                speed.multiply(at(start, s), rocket.fact(s, Rocket.GRADE));
                speed.multiply(at(end, s), -rocket.fact(s, Rocket.GRADE));
            }
        }

        static int hundredfold(int thrust, int flies) {
            return flies > 0 ? 100 * thrust / flies : 0;
        }
    }

    /** All DIVISIONS with one PAYLOAD, and THE BOX that some are chosen from. */
    private static final class Choice {
        private static final int WIDTH = MOST_FUEL + 1;
        /** A cell tells MASS and the greatest power that is REACHED in one number. */
        private static final int CELL = 64;

        private final int[] cells = new int[WIDTH * WIDTH * WIDTH];
        private final int[] low = new int[MOST_STAGES];
        private final int[] high = new int[MOST_STAGES];
        private final Ratio ratio = new Ratio();
        private final Scale scale;
        private int known = 0;

        Choice(Scale scale) {
            this.scale = scale;
        }

        /** A DIVISION's number rises with FUEL of STAGE 0 first, then 1, then 2: of like ones the least counts. */
        static int unitsOf(int code, int s) {
            if (s == 0) {
                return code / (WIDTH * WIDTH);
            }
            return s == 1 ? code / WIDTH % WIDTH : code % WIDTH;
        }

        int cellCount() {
            return cells.length;
        }

        void forget() {
            known = 0;
        }

        void bound(int s, int from, int to) {
            put(low, s, from);
            put(high, s, to);
        }

        /** The cells hang on ROCKET and PAYLOAD alone, so they are kept until one of these changes. */
        void prepare(Rocket rocket, int[] now, Weights weights) {
            for (int s = 0; s < MOST_STAGES; s++) {
                bound(s, at(now, AT_LOW + s), at(now, AT_HIGH + s));
            }
            int load = at(now, AT_PAYLOAD);
            if (known == load) {
                return;
            }
            for (int code = 0; code < cells.length; code++) {
                weights.layCode(code);
                int reached = isWithinMost(rocket, weights) ? powerHeld(rocket, load, weights) : NONE;
                cells[code] = reached < 0 ? NONE : weights.whole * CELL + reached;
            }
            known = load;
        }

        private static boolean isWithinMost(Rocket rocket, Weights weights) {
            for (int s = 0; s < MOST_STAGES; s++) {
                int most = s < rocket.stages ? rocket.fact(s, Rocket.MOST) : 0;
                if (at(weights.units, s) > most) {
                    return false;
                }
            }
            return true;
        }

        /** The greatest power that a DIVISION REACHES with a load; NONE if it doesn't HOLD. */
        private int powerHeld(Rocket rocket, int load, Weights weights) {
            weights.weigh(rocket, load);
            if (!weights.holdsAll(rocket)) {
                return NONE;
            }
            weights.speedInto(rocket, ratio);
            return scale.powerOf(ratio, rocket.upper, rocket.lower);
        }

        private boolean isInside(int code) {
            for (int s = 0; s < MOST_STAGES; s++) {
                int units = unitsOf(code, s);
                if (units < at(low, s) || units > at(high, s)) {
                    return false;
                }
            }
            return true;
        }

        /** It is in THE BOX and HOLDS. */
        boolean counts(int code) {
            return at(cells, code) >= 0 && isInside(code);
        }

        int weightOf(int code) {
            return at(cells, code) / CELL;
        }

        int powerOf(int code) {
            return at(cells, code) % CELL;
        }

        int best(int k) {
            int found = NONE;
            for (int code = 0; code < cells.length; code++) {
                if (counts(code) && powerOf(code) >= k && (found < 0 || weightOf(code) < weightOf(found))) {
                    found = code;
                }
            }
            return found;
        }

        int highestPower() {
            int found = NOTHING;
            for (int code = 0; code < cells.length; code++) {
                if (counts(code)) {
                    found = Math.max(found, powerOf(code));
                }
            }
            return found;
        }

        int count(int k) {
            int found = 0;
            for (int code = 0; code < cells.length; code++) {
                if (counts(code) && powerOf(code) >= k) {
                    found++;
                }
            }
            return found;
        }

        int extreme(int k, int s, boolean upper) {
            int found = NOTHING;
            for (int code = 0; code < cells.length; code++) {
                if (counts(code) && powerOf(code) >= k) {
                    int units = unitsOf(code, s);
                    if (found < 0 || (upper ? units > found : units < found)) {
                        found = units;
                    }
                }
            }
            return found;
        }

        /** A DIVISION that can't lift a load can't lift a greater one, so each goes on from the greatest so far. */
        int heaviestLoad(Rocket rocket, int k, Weights weights) {
            int found = 0;
            for (int code = 0; code < cells.length; code++) {
                weights.layCode(code);
                if (isWithinMost(rocket, weights) && isInside(code)) {
                    while (found < MOST_PAYLOAD && powerHeld(rocket, found + 1, weights) >= k) {
                        found++;
                    }
                }
            }
            return found == 0 ? NOTHING : found;
        }
    }

    /** THE FRONT. */
    private static final class Front {
        private static final int MASSES = 400;

        private final int[] byMass = new int[MASSES];
        final int[] codes = new int[MASSES];
        int count = 0;
        private int drawn = 0;
        private final Choice choice;
        private final Scale scale;
        private final Weights weights = new Weights();
        private final Ratio one = new Ratio();
        private final Ratio other = new Ratio();

        Front(Choice choice, Scale scale) {
            this.choice = choice;
            this.scale = scale;
        }

        /** It hangs on what the ACTS and a new ROCKET change, so it stands until the next of these. */
        void draw(Rocket rocket, int load, int changes) {
            if (drawn == changes) {
                return;
            }
            drawn = changes;
            for (int m = 0; m < byMass.length; m++) {
                byMass[m] = NONE;
            }
            for (int code = 0; code < choice.cellCount(); code++) {
                if (choice.counts(code)) {
                    int m = choice.weightOf(code);
                    int before = at(byMass, m);
                    if (before < 0 || isFaster(rocket, load, code, before)) {
                        put(byMass, m, code);
                    }
                }
            }
            count = 0;
            for (int m = 0; m < byMass.length; m++) {
                int code = byMass[m];
                if (code >= 0 && (count == 0 || isFaster(rocket, load, code, at(codes, count - 1)))) {
                    put(codes, count, code);
                    count++;
                }
            }
        }

        private boolean isFaster(Rocket rocket, int load, int code, int before) {
            // A greater power is a greater SPEED: only of like powers the SPEEDS themselves are compared.
            if (choice.powerOf(code) != choice.powerOf(before)) {
                return choice.powerOf(code) > choice.powerOf(before);
            }
            weights.weighCode(rocket, load, code);
            weights.speedInto(rocket, one);
            weights.weighCode(rocket, load, before);
            weights.speedInto(rocket, other);
            return scale.compare(one, other) > 0;
        }
    }

    /** THE FLIGHT of a DIVISION, TICK by TICK. */
    private static final class Flight {
        /** Each TICK but a STAGE's last burns a unit of FUEL at least. */
        private static final int MOST_TICKS = MOST_STAGES * (MOST_FUEL + 1);

        final int[] stageAt = new int[MOST_TICKS];
        final int[] tickOfBurn = new int[MOST_TICKS];
        final int[] ahead = new int[MOST_TICKS];
        final int[] behind = new int[MOST_TICKS];
        final int[] running = new int[MOST_TICKS];
        final int[] push = new int[MOST_TICKS];
        final Ratio product = new Ratio();
        int ticks = 0;
        int dropped = 0;
        int stopped = 0;

        /** One engine more of STAGE extra fails in the given TICK of its burn (extra below 0: none). */
        void fly(Rocket rocket, Weights weights, int extra, int extraTick) {
            ticks = 0;
            dropped = 0;
            stopped = 0;
            product.clear();
            for (int s = 0; s < rocket.stages; s++) {
                burn(rocket, weights, s, s == extra ? extraTick : 0);
            }
            if (rocket.pull > 0) {
                product.multiply(rocket.pull, ticks);
                product.multiply(rocket.pull + 1, -ticks);
            }
        }

        /** Within a burn each TICK begins with what the one before left, so FLOWN needs first and last alone. */
        private void burn(Rocket rocket, Weights weights, int s, int extraTick) {
            int grade = rocket.fact(s, Rocket.GRADE);
            int engines = rocket.fact(s, Rocket.ENGINES);
            int left = at(weights.units, s);
            int flies = at(weights.start, s);
            for (int tick = 1; left > 0 && engines > 0 && tick <= LAST_TICK; tick++) {
                int failing = rocket.failing(s, tick) + (tick == extraTick ? 1 : 0);
                int stop = grade == Rocket.SOLID ? 0 : Math.min(failing, engines);
                engines -= stop;
                stopped += stop;
                int burnt = Math.min(rocket.fact(s, Rocket.FLOW) * engines, left);
                put(stageAt, ticks, s);
                put(tickOfBurn, ticks, tick);
                put(ahead, ticks, flies);
                put(behind, ticks, flies - burnt);
                put(running, ticks, engines);
                put(push, ticks, Weights.hundredfold(rocket.fact(s, Rocket.THRUST) * engines, flies));
                ticks++;
                left -= burnt;
                flies -= burnt;
            }
            dropped += left;
            product.multiply(at(weights.start, s), grade);
            product.multiply(flies, -grade);
        }

        int leastPush() {
            int first = firstOfLeastPush();
            return first < 1 ? NOTHING : at(push, first - 1);
        }

        int firstOfLeastPush() {
            int found = NOTHING;
            for (int i = 0; i < ticks; i++) {
                if (found < 1 || at(push, i) < at(push, found - 1)) {
                    found = i + 1;
                }
            }
            return found;
        }
    }

    /** A product of whole bases, each to a power; powers below 0 stand for the denominator. */
    private static final class Ratio {
        private static final int ROOM = 2 * MOST_STAGES + 2;
        /** No base is greater: what flies is 358 at most, PULL and 1 is 100. */
        private static final int GREATEST_BASE = 400;
        private static final long MODULUS = 1000003;

        private final int[] bases = new int[ROOM];
        private final int[] powers = new int[ROOM];
        private final int[] rests = new int[ROOM];
        private int count = 0;

        void clear() {
            count = 0;
        }

        void multiply(int base, int times) {
            put(bases, count, base);
            put(powers, count, times);
            count++;
        }

        void multiplyInto(Big top, Big bottom) {
            for (int i = 0; i < count; i++) {
                int base = at(bases, i);
                int times = at(powers, i);
                Big side = times > 0 ? top : bottom;
                for (int left = Math.abs(times); left > 0; left--) {
                    side.multiply(base);
                }
            }
        }

        /** The product with the small errors of a double. */
        double roughly() {
            double product = 1;
            for (int i = 0; i < count; i++) {
                double base = at(bases, i);
                int times = at(powers, i);
                for (int left = Math.abs(times); left > 0 && base > 0; left--) {
                    product = times > 0 ? product * base : product / base;
                }
            }
            return product;
        }

        /** Numerator (upper) or denominator in lowest terms, prime by prime. */
        int lowest(boolean upper) {
            for (int i = 0; i < count; i++) {
                put(rests, i, at(bases, i));
            }
            long product = 1;
            for (int prime = 2; prime <= GREATEST_BASE; prime++) {
                int times = takeOut(prime);
                int wanted = upper ? times : -times;
                for (int i = 0; i < wanted; i++) {
                    product = product * prime % MODULUS;
                }
            }
            return (int) product;
        }

        private int takeOut(int prime) {
            int times = 0;
            for (int i = 0; i < count; i++) {
                int rest = at(rests, i);
                while (rest > 1 && prime > 1 && rest % prime == 0) {
                    rest /= prime;
                    times += at(powers, i);
                }
                put(rests, i, rest);
            }
            return times;
        }
    }

    /** Compares exact ratios with one another and with powers of MARK. */
    private static final class Scale {
        /** Rough products are off by far less than this: only nearer ones are weighed exactly. */
        private static final double NEAR = 1e-8;

        private final Big left = new Big();
        private final Big right = new Big();

        /** 1 if one is above the other, -1 below, 0 like. */
        int compare(Ratio one, Ratio other) {
            double first = one.roughly();
            double second = other.roughly();
            if (first > second + second * NEAR) {
                return 1;
            }
            if (first < second - second * NEAR) {
                return -1;
            }
            left.setOne();
            right.setOne();
            one.multiplyInto(left, right);
            other.multiplyInto(right, left);
            return left.compare(right);
        }

        /** The greatest power, HIGHEST at most, of upper by lower that is no greater; NOTHING if not 0's. */
        int powerOf(Ratio ratio, int upper, int lower) {
            double reached = ratio.roughly();
            double step = lower > 0 ? (double) upper / lower : 1;
            double wanted = 1;
            int found = NOTHING;
            for (int k = 0; k <= HIGHEST; k++) {
                if (reached < wanted - wanted * NEAR) {
                    return found;
                }
                if (reached <= wanted + wanted * NEAR && !isNoLess(ratio, upper, lower, k)) {
                    return found;
                }
                found = k;
                wanted *= step;
            }
            return found;
        }

        private boolean isNoLess(Ratio ratio, int upper, int lower, int k) {
            left.setOne();
            right.setOne();
            ratio.multiplyInto(left, right);
            for (int i = 0; i < k; i++) {
                left.multiply(lower);
                right.multiply(upper);
            }
            return left.compare(right) >= 0;
        }
    }

    /** A whole number above 0, as long as the products here get: 710 bits at most. */
    private static final class Big {
        private static final int ROOM = 16;
        private static final int BITS = 48;
        private static final long MASK = (1L << BITS) - 1;

        private final long[] limbs = new long[ROOM];
        private int used = 0;

        void setOne() {
            if (limbs.length > 0) {
                limbs[0] = 1;
            }
            used = 1;
        }

        void multiply(int factor) {
            long carry = 0;
            for (int i = 0; i < used && i < limbs.length; i++) {
                long product = limbs[i] * factor + carry;
                limbs[i] = product & MASK;
                carry = product >>> BITS;
            }
            if (carry > 0 && used >= 0 && used < limbs.length) {
                limbs[used] = carry;
                used++;
            }
        }

        int compare(Big other) {
            if (used != other.used) {
                return used > other.used ? 1 : -1;
            }
            for (int i = used - 1; i >= 0; i--) {
                if (i < limbs.length && i < other.limbs.length && limbs[i] != other.limbs[i]) {
                    return limbs[i] > other.limbs[i] ? 1 : -1;
                }
            }
            return 0;
        }
    }
}
