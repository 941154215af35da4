/**
 * What devices tell, as sets that are joined in any order. The promises are in shared/DOC.md.
 *
 * All tellings, and all corrections, are kept once, in rows. A set holds only which of them are in
 * it, as the bits of a number, so that joining is an "or" and asking makes no object.
 */
public final class DeviceSets {
    public static final int NONE = -1;

    private static final int MOST_DEVICES = 4;
    private static final int MOST_LIVES = 100;
    private static final int MOST_TELLINGS = 60;
    private static final int MOST_CORRECTIONS = 20;
    private static final int MOST_SETS = 6;
    private static final int MOST_MARKS = 10;
    private static final int MOST_TURNS = 1000;
    private static final int KINDS = 4;
    private static final long GREATEST_NUMBER = 1000000L;
    private static final long GREATEST_VALUE = 1000000000L;
    private static final long GREATEST_BOUND = 2000000L;

    // Long.MIN_VALUE, written out because LANGUAGE.md lists only the functions of Long.
    private static final long NOTHING = 0x8000000000000000L;

    private final Device[] devices;
    private final ToldSet[] sets;
    private final Tellings tellings;
    private final Corrections corrections;
    private int deviceCount;
    private int setCount;
    private int batchCount;

    public DeviceSets() {
        devices = new Device[MOST_DEVICES];
        sets = new ToldSet[MOST_SETS];
        tellings = new Tellings();
        corrections = new Corrections();
    }

    public int device() {
        if (deviceCount >= MOST_DEVICES) {
            return NONE;
        }
        devices[deviceCount] = new Device();
        deviceCount++;
        return deviceCount - 1;
    }

    public int tell(int device, long number, int kind, long second, long v, long on) {
        Device teller = deviceAt(device);
        if (teller == null || !isNumber(number) || number < teller.firstNumber) {
            return NONE;
        }
        if (!isKind(kind) || !isNumber(second) || !isValue(v) || !isNumber(on)) {
            return NONE;
        }
        if (tellings.has(device, teller.life, (int) number, kind, second, v)) {
            return 0;
        }
        return tellings.add(device, teller.life, (int) number, kind, second, v, on) ? 1 : NONE;
    }

    public boolean reset(int device, long number) {
        Device d = deviceAt(device);
        if (d == null || !isNumber(number) || d.life >= MOST_LIVES - 1) {
            return false;
        }
        d.life++;
        d.firstNumber = number;
        return true;
    }

    public int life(int device) {
        Device d = deviceAt(device);
        return d == null ? NONE : d.life;
    }

    public int set(int device) {
        if (setCount >= MOST_SETS || deviceAt(device) == null) {
            return NONE;
        }
        sets[setCount] = new ToldSet(tellings.ofDevice(device));
        setCount++;
        return setCount - 1;
    }

    public int join(int set, int other) {
        ToldSet into = setAt(set);
        ToldSet from = setAt(other);
        if (into == null || from == null) {
            return NONE;
        }
        into.bring(from);
        return Long.bitCount(conflictsIn(into.held));
    }

    public boolean correct(int set, int device, int kind, long second, long v, long told) {
        ToldSet into = setAt(set);
        if (into == null || deviceAt(device) == null || !isKind(kind)) {
            return false;
        }
        if (!isNumber(second) || !isValue(v) || !isNumber(told)) {
            return false;
        }
        int c = corrections.findOrAdd(device, kind, second, v, told);
        if (c == NONE) {
            return false;
        }
        into.held.corrections |= bit(c);
        return true;
    }

    public long last(int set, int device, int kind) {
        ToldSet s = setAt(set);
        if (s == null) {
            return NOTHING;
        }
        int t = tellings.latestNumbered(seenIn(s.held, device, kind));
        return t == NONE ? NOTHING : tellings.value[t];
    }

    public long known(int set, int device, int kind, long second, long on) {
        ToldSet s = setAt(set);
        if (s == null) {
            return NOTHING;
        }
        int t = tellings.latestKnown(seenIn(s.held, device, kind), second, on);
        if (t == NONE) {
            return NOTHING;
        }
        int c = corrections.latest(s.held.corrections, device, kind, tellings.second[t], on);
        return c == NONE ? tellings.value[t] : corrections.value[c];
    }

    public int gap(int set, int device, int k) {
        ToldSet s = setAt(set);
        if (s == null || k < 0) {
            return NONE;
        }
        return tellings.missingNumber(s.held.tellings & tellings.ofDevice(device), k);
    }

    public int conflict(int set, int k, int what) {
        ToldSet s = setAt(set);
        if (s == null) {
            return NONE;
        }
        int t = tellings.inPlace(conflictsIn(s.held), k);
        return t == NONE ? NONE : tellings.keyPart(t, what);
    }

    public int settle(int set, int device, int kind, int which) {
        ToldSet s = setAt(set);
        if (s == null) {
            return NONE;
        }
        int key = tellings.first(conflictsIn(s.held) & tellings.ofKind(device, kind));
        if (key == NONE) {
            return NONE;
        }
        int choice = tellings.inPlace(tellings.ofKeyOf(key, liveIn(s.held)), which);
        if (choice == NONE) {
            return NONE;
        }
        s.held.choices |= bit(choice);
        return Long.bitCount(conflictsIn(s.held));
    }

    public boolean equal(int set, int other) {
        ToldSet one = setAt(set);
        ToldSet two = setAt(other);
        return one != null && two != null && one.held.isLike(two.held);
    }

    public int batch(int set) {
        ToldSet s = setAt(set);
        if (s == null || s.openBatch != NONE) {
            return NONE;
        }
        s.openBatch = batchCount;
        batchCount++;
        return s.openBatch;
    }

    public boolean endBatch(int batch) {
        if (batch < 0) {
            return false;
        }
        for (int i = 0; i < setCount; i++) {
            ToldSet s = setAt(i);
            if (s != null && s.openBatch == batch) {
                s.takeWaiting();
                return true;
            }
        }
        return false;
    }

    public int retain(int set, long before) {
        ToldSet s = setAt(set);
        if (s == null || before < 0 || before > GREATEST_BOUND) {
            return NONE;
        }
        long live = liveIn(s.held);
        s.held.bound = Math.max(s.held.bound, before);
        return Long.bitCount(live & ~liveIn(s.held));
    }

    public long kept(int set, int kind) {
        ToldSet s = setAt(set);
        return s == null ? 0 : tellings.sumOfKind(s.held.tellings & ~liveIn(s.held), kind);
    }

    public boolean mark(int device, long second, long true2) {
        Device d = deviceAt(device);
        return d != null && isNumber(second) && isNumber(true2) && d.clock.addMark(second, true2);
    }

    public long corrected(int device, long second, int part) {
        Device d = deviceAt(device);
        if (d == null || !isNumber(second) || part < 0 || part > 1) {
            return NOTHING;
        }
        long over = d.clock.numerator(second);
        long under = d.clock.denominator(second);
        long shared = commonDivisor(Math.abs(over), under);
        if (shared == 0) {
            return NOTHING;
        }
        return (part == 0 ? over : under) / shared;
    }

    public int play(long seed, int turns) {
        if (setCount == 0 || turns < 0 || turns > MOST_TURNS) {
            return NONE;
        }
        long x = seed;
        int changes = 0;
        for (int turn = 0; turn < turns; turn++) {
            x = nextDraw(x);
            int a = (int) ((x >>> 33) % setCount);
            x = nextDraw(x);
            int b = (int) ((x >>> 33) % setCount);
            if (a != b && joinChanges(a, b)) {
                changes++;
            }
        }
        return changes;
    }

    private Device deviceAt(int number) {
        return number >= 0 && number < deviceCount ? devices[number] : null;
    }

    private ToldSet setAt(int number) {
        return number >= 0 && number < setCount ? sets[number] : null;
    }

    private boolean joinChanges(int set, int other) {
        ToldSet into = setAt(set);
        ToldSet from = setAt(other);
        return into != null && from != null && into.bring(from);
    }

    private long liveIn(Held held) {
        return tellings.notBelow(held.bound, held.tellings);
    }

    private long conflictsIn(Held held) {
        return tellings.unsettled(liveIn(held), held.choices);
    }

    private long seenIn(Held held, int device, int kind) {
        return tellings.holding(liveIn(held) & tellings.ofKind(device, kind), held.choices);
    }

    private static boolean isNumber(long n) {
        return n >= 0 && n <= GREATEST_NUMBER;
    }

    private static boolean isKind(int kind) {
        return kind >= 0 && kind < KINDS;
    }

    private static boolean isValue(long v) {
        return v >= -GREATEST_VALUE && v <= GREATEST_VALUE;
    }

    private static long bit(int place) {
        return 1L << place;
    }

    private static boolean isIn(int place, long among) {
        return (among & bit(place)) != 0;
    }

    private static long nextDraw(long x) {
        return x * 6364136223846793005L + 1442695040888963407L;
    }

    // A hundred steps are more than Euclid's way needs for any two longs.
    private static long commonDivisor(long a, long b) {
        long greater = a;
        long less = b;
        for (int step = 0; step < 100 && less != 0; step++) {
            long rest = greater % less;
            greater = less;
            less = rest;
        }
        return greater;
    }

    /** A device in its life, with its clock, which goes on through all lives. */
    private static final class Device {
        private final Clock clock = new Clock();
        private int life;
        private long firstNumber;
    }

    /** The marks of a device's clock, by rising seconds. */
    private static final class Clock {
        private final long[] seconds = new long[MOST_MARKS];
        private final long[] trueSeconds = new long[MOST_MARKS];
        private int count;

        boolean addMark(long second, long trueSecond) {
            if (count >= MOST_MARKS) {
                return false;
            }
            if (count > 0 && (second <= seconds[count - 1] || trueSecond < trueSeconds[count - 1])) {
                return false;
            }
            seconds[count] = second;
            trueSeconds[count] = trueSecond;
            count++;
            return true;
        }

        /** The denominator before it is brought to lowest terms: 1 but between two marks. */
        long denominator(long second) {
            int i = markBefore(second);
            return isBetween(i) ? seconds[i + 1] - seconds[i] : 1;
        }

        /** The numerator that goes with that denominator. */
        long numerator(long second) {
            if (count == 0) {
                return second;
            }
            int i = markBefore(second);
            if (isBetween(i)) {
                long run = seconds[i + 1] - seconds[i];
                long rise = trueSeconds[i + 1] - trueSeconds[i];
                return trueSeconds[i] * run + (second - seconds[i]) * rise;
            }
            int nearest = Math.max(i, 0);
            return second + trueSeconds[nearest] - seconds[nearest];
        }

        private boolean isBetween(int i) {
            return i >= 0 && i < count - 1;
        }

        private int markBefore(long second) {
            int found = NONE;
            for (int i = 0; i < count; i++) {
                if (seconds[i] <= second) {
                    found = i;
                }
            }
            return found;
        }
    }

    /** What is in a set, or waits for it: places of tellings and corrections as bits, and a bound. */
    private static final class Held {
        private long tellings;
        private long corrections;
        private long choices;
        private long bound;

        /** Answers whether that changed anything here. */
        boolean takeIn(Held other) {
            boolean isMore = (other.tellings & ~tellings) != 0
                || (other.corrections & ~corrections) != 0
                || (other.choices & ~choices) != 0
                || other.bound > bound;
            tellings |= other.tellings;
            corrections |= other.corrections;
            choices |= other.choices;
            bound = Math.max(bound, other.bound);
            return isMore;
        }

        boolean isLike(Held other) {
            return tellings == other.tellings && corrections == other.corrections
                && choices == other.choices && bound == other.bound;
        }

        void clear() {
            tellings = 0;
            corrections = 0;
            choices = 0;
            bound = 0;
        }
    }

    /** A set, and what waits for it while a batch is open. */
    private static final class ToldSet {
        private final Held held = new Held();
        private final Held waiting = new Held();
        private int openBatch = NONE;

        ToldSet(long tellings) {
            held.tellings = tellings;
        }

        /** Answers whether that changed the set or, while a batch is open, what waits. */
        boolean bring(ToldSet other) {
            return openBatch == NONE ? held.takeIn(other.held) : waiting.takeIn(other.held);
        }

        void takeWaiting() {
            held.takeIn(waiting);
            waiting.clear();
            openBatch = NONE;
        }
    }

    /** All tellings of all devices, in rows; a group of them is given as the bits of their places. */
    private static final class Tellings {
        private final int[] device = new int[MOST_TELLINGS];
        private final int[] life = new int[MOST_TELLINGS];
        private final int[] number = new int[MOST_TELLINGS];
        private final int[] kind = new int[MOST_TELLINGS];
        private final long[] second = new long[MOST_TELLINGS];
        private final long[] value = new long[MOST_TELLINGS];
        private final long[] on = new long[MOST_TELLINGS];
        private int count;

        boolean has(int ofDevice, int ofLife, int ofNumber, int ofKind, long atSecond, long v) {
            for (int i = 0; i < count; i++) {
                if (device[i] == ofDevice && life[i] == ofLife && number[i] == ofNumber
                    && kind[i] == ofKind && second[i] == atSecond && value[i] == v) {
                    return true;
                }
            }
            return false;
        }

        boolean add(int ofDevice, int ofLife, int ofNumber, int ofKind, long atSecond, long v, long toldOn) {
            if (count >= MOST_TELLINGS) {
                return false;
            }
            device[count] = ofDevice;
            life[count] = ofLife;
            number[count] = ofNumber;
            kind[count] = ofKind;
            second[count] = atSecond;
            value[count] = v;
            on[count] = toldOn;
            count++;
            return true;
        }

        long ofDevice(int wanted) {
            long found = 0;
            for (int i = 0; i < count; i++) {
                if (device[i] == wanted) {
                    found |= bit(i);
                }
            }
            return found;
        }

        long ofKind(int wantedDevice, int wantedKind) {
            long found = 0;
            for (int i = 0; i < count; i++) {
                if (device[i] == wantedDevice && kind[i] == wantedKind) {
                    found |= bit(i);
                }
            }
            return found;
        }

        long notBelow(long bound, long among) {
            long found = 0;
            for (int i = 0; i < count; i++) {
                if (isIn(i, among) && second[i] >= bound) {
                    found |= bit(i);
                }
            }
            return found;
        }

        long ofKeyOf(int t, long among) {
            long found = 0;
            for (int i = 0; i < count; i++) {
                if (isIn(i, among) && device[i] == device[t] && life[i] == life[t]
                    && number[i] == number[t] && kind[i] == kind[t]) {
                    found |= bit(i);
                }
            }
            return found;
        }

        /** One telling for each key that is in conflict among live ones. */
        long unsettled(long live, long choices) {
            long found = 0;
            long rest = live;
            for (int i = 0; i < count; i++) {
                if (isIn(i, rest)) {
                    long sameKey = ofKeyOf(i, live);
                    rest &= ~sameKey;
                    if (sameKey != bit(i) && (sameKey & choices) == 0) {
                        found |= bit(i);
                    }
                }
            }
            return found;
        }

        /** Of live tellings those that are seen. */
        long holding(long live, long choices) {
            long found = 0;
            for (int i = 0; i < count; i++) {
                if (isIn(i, live)) {
                    long sameKey = ofKeyOf(i, live);
                    if (sameKey == bit(i) || first(sameKey & choices) == i) {
                        found |= bit(i);
                    }
                }
            }
            return found;
        }

        int first(long among) {
            int found = NONE;
            for (int i = 0; i < count; i++) {
                if (isIn(i, among) && (found == NONE || isBefore(i, found))) {
                    found = i;
                }
            }
            return found;
        }

        /** The telling with just so many of the others before it. */
        int inPlace(long among, int place) {
            for (int i = 0; i < count; i++) {
                if (isIn(i, among) && countBefore(i, among) == place) {
                    return i;
                }
            }
            return NONE;
        }

        private int countBefore(int t, long among) {
            int before = 0;
            for (int i = 0; i < count; i++) {
                if (isIn(i, among) && isBefore(i, t)) {
                    before++;
                }
            }
            return before;
        }

        // One order serves for keys and, within a key, for seconds and values: no two tellings are
        // alike in all of these.
        private boolean isBefore(int a, int b) {
            if (device[a] != device[b]) {
                return device[a] < device[b];
            }
            if (life[a] != life[b]) {
                return life[a] < life[b];
            }
            if (number[a] != number[b]) {
                return number[a] < number[b];
            }
            if (kind[a] != kind[b]) {
                return kind[a] < kind[b];
            }
            if (second[a] != second[b]) {
                return second[a] < second[b];
            }
            return value[a] < value[b];
        }

        /** Among seen tellings of one device and kind: no two of them have the same life and number. */
        int latestNumbered(long among) {
            int found = NONE;
            for (int i = 0; i < count; i++) {
                if (isIn(i, among) && (found == NONE || isBefore(found, i))) {
                    found = i;
                }
            }
            return found;
        }

        /** Among seen tellings of one device and kind, as of a time and up to a second. */
        int latestKnown(long among, long upTo, long asOf) {
            int found = NONE;
            for (int i = 0; i < count; i++) {
                if (isIn(i, among) && second[i] <= upTo && on[i] <= asOf
                    && (found == NONE || isOfLater(i, found))) {
                    found = i;
                }
            }
            return found;
        }

        private boolean isOfLater(int a, int b) {
            return second[a] != second[b] ? second[a] > second[b] : isBefore(b, a);
        }

        /** Among tellings of one device. Goes from number to number: between two may be a million. */
        int missingNumber(long among, int place) {
            long ofLife = ofGreatestLife(among);
            int rest = place;
            int here = nextNumber(ofLife, NONE);
            for (int step = 0; step < count && here != NONE; step++) {
                int next = nextNumber(ofLife, here);
                if (next == NONE) {
                    return NONE;
                }
                int missing = next - here - 1;
                if (rest < missing) {
                    return here + 1 + rest;
                }
                rest -= missing;
                here = next;
            }
            return NONE;
        }

        private long ofGreatestLife(long among) {
            int greatest = NONE;
            long found = 0;
            for (int i = 0; i < count; i++) {
                if (isIn(i, among) && life[i] > greatest) {
                    greatest = life[i];
                    found = 0;
                }
                if (isIn(i, among) && life[i] == greatest) {
                    found |= bit(i);
                }
            }
            return found;
        }

        private int nextNumber(long among, int after) {
            int next = NONE;
            for (int i = 0; i < count; i++) {
                if (isIn(i, among) && number[i] > after && (next == NONE || number[i] < next)) {
                    next = number[i];
                }
            }
            return next;
        }

        int keyPart(int t, int what) {
            switch (what) {
                case 0:
                    return device[t];
                case 1:
                    return life[t];
                case 2:
                    return number[t];
                case 3:
                    return kind[t];
                default:
                    return NONE;
            }
        }

        long sumOfKind(long among, int wanted) {
            long sum = 0;
            for (int i = 0; i < count; i++) {
                if (isIn(i, among) && kind[i] == wanted) {
                    sum += value[i];
                }
            }
            return sum;
        }
    }

    /** All corrections of all sets, in rows. */
    private static final class Corrections {
        private final int[] device = new int[MOST_CORRECTIONS];
        private final int[] kind = new int[MOST_CORRECTIONS];
        private final long[] second = new long[MOST_CORRECTIONS];
        private final long[] value = new long[MOST_CORRECTIONS];
        private final long[] told = new long[MOST_CORRECTIONS];
        private int count;

        int findOrAdd(int ofDevice, int ofKind, long atSecond, long v, long toldOn) {
            for (int i = 0; i < count; i++) {
                if (isFor(i, ofDevice, ofKind, atSecond) && value[i] == v && told[i] == toldOn) {
                    return i;
                }
            }
            if (count >= MOST_CORRECTIONS) {
                return NONE;
            }
            device[count] = ofDevice;
            kind[count] = ofKind;
            second[count] = atSecond;
            value[count] = v;
            told[count] = toldOn;
            count++;
            return count - 1;
        }

        int latest(long among, int ofDevice, int ofKind, long atSecond, long asOf) {
            int found = NONE;
            for (int i = 0; i < count; i++) {
                if (isIn(i, among) && isFor(i, ofDevice, ofKind, atSecond) && told[i] <= asOf
                    && (found == NONE || isStronger(i, found))) {
                    found = i;
                }
            }
            return found;
        }

        private boolean isFor(int i, int ofDevice, int ofKind, long atSecond) {
            return device[i] == ofDevice && kind[i] == ofKind && second[i] == atSecond;
        }

        private boolean isStronger(int a, int b) {
            return told[a] != told[b] ? told[a] > told[b] : value[a] > value[b];
        }
    }
}
