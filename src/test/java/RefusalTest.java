import java.util.ArrayList;
import java.util.LinkedHashMap;
import java.util.List;
import java.util.Map;

/**
 * "A call that is refused changes nothing": behind each refused call, and each call that only asks,
 * every row of calls must be answered as on a like object on which it was not made.
 */
public final class RefusalTest extends Answers {
    private static final int MOST_CALLS = 512;
    private static final int[] NOT_INTS = {-1, Integer.MIN_VALUE, Integer.MAX_VALUE};
    private static final long[] NO_BOUNDS = {-1, 2000001, Long.MIN_VALUE, Long.MAX_VALUE, 1L << 32};

    public static void main(String[] args) {
        about("A call that is refused changes nothing, in a new object");
        duesInNew().forEach((call, want) -> dueUnchanged(List.of(), call, want));
        about("A call that is refused changes nothing, in an object with something of all");
        duesInUsed().forEach((call, want) -> dueUnchanged(used(), call, want));
        about("A call that is refused changes nothing, in a full object");
        duesInFull().forEach((call, want) -> dueUnchanged(full(), call, want));
        end("no refused call changes anything");
    }

    private static void dueUnchanged(List<Call> before, Call refused, long want) {
        for (List<Call> behind : rowsBehind()) {
            due("calls on one object, no more than it is made for: " + (before.size() + 1 + behind.size()),
                before.size() + 1 + behind.size() <= MOST_CALLS, true);
            DeviceSets with = made(before);
            DeviceSets without = made(before);
            due(refused.name(), refused.on().applyAsLong(with), want);
            for (Call call : behind) {
                due(call.name() + " behind " + refused.name(), call.on().applyAsLong(with), call.on().applyAsLong(without));
            }
        }
    }

    /**
     * Three devices, the last in its 100th life, and four sets; batch 0 has ended, 1 is open for set 1
     * and what is in set 2 waits there. Set 3 has the same tellings as set 1.
     */
    private static List<Call> used() {
        List<Call> calls = new ArrayList<>();
        for (int d = 0; d < 3; d++) {
            calls.add(Call.device());
            calls.add(Call.tell(d, 1, 0, 10, 5, 3));
            calls.add(Call.tell(d, 4, 0, 20, 6, 2));
            calls.add(Call.tell(d, 6, 1, 30, 7, 4));
        }
        calls.add(Call.set(0));
        calls.add(Call.tell(0, 4, 0, 21, 8, 3));
        calls.add(Call.tell(0, 4, 0, 22, 8, 3));
        calls.add(Call.reset(0, 5));
        calls.add(Call.tell(0, 8, 2, 25, 9, 4));
        calls.add(Call.tell(0, 8, 2, 26, 9, 4));
        calls.add(Call.set(1));
        calls.add(Call.set(0));
        calls.add(Call.set(1));
        calls.add(Call.join(2, 0));
        calls.add(Call.settle(2, 0, 0, 1));
        calls.add(Call.correct(2, 0, 0, 10, 50, 4));
        calls.add(Call.correct(1, 1, 0, 20, 60, 2));
        calls.add(Call.retain(2, 11));
        calls.add(Call.batch(0));
        calls.add(Call.endBatch(0));
        calls.add(Call.batch(1));
        calls.add(Call.join(1, 2));
        calls.add(Call.mark(0, 10, 40));
        calls.add(Call.mark(0, 30, 45));
        calls.add(Call.mark(1, 5, 0));
        for (int life = 1; life < 100; life++) {
            calls.add(Call.reset(2, 5));
        }
        return calls;
    }

    /** All that can be full: devices, tellings, sets, corrections, the lives of device 0, the marks of device 1. */
    private static List<Call> full() {
        List<Call> calls = new ArrayList<>();
        for (int d = 0; d < 4; d++) {
            calls.add(Call.device());
        }
        for (int i = 0; i < 10; i++) {
            calls.add(Call.mark(1, 3 * i, 5 * i));
            calls.add(Call.tell(0, i, 0, i, i, i));
        }
        for (int life = 1; life < 100; life++) {
            calls.add(Call.reset(0, 7));
        }
        calls.add(Call.reset(3, 8));
        calls.add(Call.mark(3, 8, 9));
        calls.add(Call.set(0));
        for (int i = 0; i < 49; i++) {
            calls.add(Call.tell(i % 4, i < 8 ? 10 : 10 + i, 0, i, i, i));
        }
        calls.add(Call.tell(3, 99, 3, 0, 0, 0));
        for (int s = 1; s < 6; s++) {
            calls.add(Call.set(s % 4));
        }
        for (int i = 0; i < 20; i++) {
            calls.add(correctionOfFull(i));
        }
        calls.add(Call.batch(5));
        calls.add(Call.join(5, 3));
        calls.add(Call.retain(4, 9));
        return calls;
    }

    /** Each is for the last telling of its set's device, so that asking shows it. */
    private static Call correctionOfFull(int i) {
        int set = i % 6;
        int device = set % 4;
        return Call.correct(set, device, 0, device == 0 ? 48 : 44 + device, i, 50 + i);
    }

    private static List<List<Call>> rowsBehind() {
        return List.of(asking(), askingWhatWasKnown(), askingAllToldInFull(), makingAll(), tellingAll(),
            correctingAll(), markingAll(), livingAll(), endingAll(), settlingAll(), retainingAll(), joiningAll(4),
            joiningAll(6));
    }

    private static List<Call> asking() {
        List<Call> calls = new ArrayList<>();
        for (int s = 0; s < 6; s++) {
            for (int d = 0; d < 4; d++) {
                for (int kind = 0; kind < 4; kind++) {
                    calls.add(Call.last(s, d, kind));
                }
                calls.add(Call.gap(s, d, 0));
                calls.add(Call.gap(s, d, 1));
            }
            calls.add(Call.join(s, s));
            for (int k = 0; k < 4; k++) {
                calls.add(Call.conflict(s, k, 2));
            }
            calls.add(Call.kept(s, 0));
            calls.add(Call.kept(s, 1));
            calls.add(Call.equal(s, (s + 1) % 6));
        }
        for (int d = 0; d < 4; d++) {
            calls.add(Call.life(d));
            calls.add(Call.corrected(d, 0, 0));
            calls.add(Call.corrected(d, 21, 0));
            calls.add(Call.corrected(d, 1000000, 0));
        }
        return calls;
    }

    private static List<Call> askingWhatWasKnown() {
        List<Call> calls = new ArrayList<>();
        for (int s = 0; s < 6; s++) {
            for (int d = 0; d < 4; d++) {
                for (int on = 2; on < 5; on++) {
                    calls.add(Call.known(s, d, 0, 10, on));
                    calls.add(Call.known(s, d, 0, 25, on));
                }
                calls.add(Call.known(s, d, 1, 1000000, 1000000));
                calls.add(Call.known(s, d, 0, 1000000, 1000000));
            }
        }
        return calls;
    }

    /** When each of the tellings and corrections of a full object was told, and what. */
    private static List<Call> askingAllToldInFull() {
        List<Call> calls = new ArrayList<>();
        for (int i = 0; i < 49; i++) {
            int set = i % 4 == 0 ? 4 : i % 4;
            calls.add(Call.known(set, i % 4, 0, i, i));
            calls.add(Call.known(set, i % 4, 0, i, i - 1));
        }
        calls.add(Call.known(3, 3, 3, 0, 0));
        for (int i = 0; i < 20; i++) {
            calls.add(Call.known(i % 6, i % 6 % 4, 0, 1000000, 50 + i));
        }
        return calls;
    }

    private static List<Call> makingAll() {
        List<Call> calls = new ArrayList<>();
        for (int i = 0; i < 5; i++) {
            calls.add(Call.device());
        }
        for (int i = 0; i < 7; i++) {
            calls.add(Call.set(i % 4));
        }
        for (int s = 0; s < 6; s++) {
            calls.add(Call.batch(s));
            calls.add(Call.retain(s, 0));
            for (int o = 0; o < 6; o++) {
                calls.add(Call.equal(s, o));
            }
        }
        calls.add(Call.play(3, 5));
        calls.add(Call.play(4, 1000));
        return calls;
    }

    /** Numbers fall, since none that is refused may come before one that was refused wrongly. */
    private static List<Call> tellingAll() {
        List<Call> calls = new ArrayList<>();
        calls.add(Call.tell(0, 10, 0, 0, 0, 0));
        calls.add(Call.tell(3, 10, 0, 3, 3, 3));
        calls.add(Call.device());
        for (int d = 0; d < 4; d++) {
            calls.add(Call.tell(d, 1000000, 0, 1, 1, 1));
            for (long number = 8; number >= 0; number--) {
                calls.add(Call.tell(d, number, 0, 1, 1, 1));
            }
        }
        for (int i = 0; i < 60; i++) {
            calls.add(Call.tell(i % 4, 1000 + i, 0, 2, i, 1));
        }
        for (int d = 0; d < 4; d++) {
            calls.add(Call.set(d));
        }
        for (int s = 0; s < 6; s++) {
            calls.add(Call.join(s, 0));
            for (int kind = 0; kind < 4; kind++) {
                calls.add(Call.last(s, s % 4, kind));
            }
            calls.add(Call.retain(s, 2000000));
        }
        return calls;
    }

    private static List<Call> correctingAll() {
        List<Call> calls = new ArrayList<>();
        calls.add(Call.device());
        calls.add(Call.set(0));
        for (int i = 0; i < 21; i++) {
            calls.add(Call.correct(i % 3, 0, 0, 5 + i, 50, 4));
        }
        for (int s = 0; s < 6; s++) {
            for (int o = 0; o < 6; o++) {
                calls.add(Call.equal(s, o));
            }
        }
        return calls;
    }

    private static List<Call> markingAll() {
        List<Call> calls = new ArrayList<>();
        calls.add(Call.device());
        for (int d = 0; d < 4; d++) {
            for (int i = 0; i < 11; i++) {
                calls.add(Call.mark(d, 100 + i, 200 + i));
            }
            for (int i = 0; i < 11; i++) {
                calls.add(Call.corrected(d, 3 * i + 1, 0));
                calls.add(Call.corrected(d, 3 * i + 1, 1));
            }
            calls.add(Call.mark(d, 50, 60));
        }
        return calls;
    }

    private static List<Call> livingAll() {
        List<Call> calls = new ArrayList<>();
        calls.add(Call.device());
        for (int d = 0; d < 4; d++) {
            calls.add(Call.reset(d, 4));
            calls.add(Call.life(d));
            calls.add(Call.tell(d, 3, 0, 0, 0, 0));
            calls.add(Call.tell(d, 4, 0, 0, 0, 0));
        }
        for (int i = 0; i < 100; i++) {
            calls.add(Call.reset(1, 3));
        }
        calls.add(Call.life(1));
        return calls;
    }

    private static List<Call> endingAll() {
        List<Call> calls = new ArrayList<>();
        calls.add(Call.play(2, 40));
        for (int b = 0; b < 8; b++) {
            calls.add(Call.endBatch(b));
        }
        for (int s = 0; s < 6; s++) {
            calls.add(Call.batch(s));
        }
        for (int b = 0; b < 8; b++) {
            calls.add(Call.endBatch(b));
        }
        calls.addAll(asking());
        return calls;
    }

    private static List<Call> settlingAll() {
        List<Call> calls = new ArrayList<>();
        for (int s = 0; s < 6; s++) {
            for (int d = 0; d < 4; d++) {
                calls.add(Call.settle(s, d, 0, 1));
                calls.add(Call.settle(s, d, 2, 0));
                calls.add(Call.last(s, d, 0));
            }
            calls.add(Call.join(s, s));
        }
        return calls;
    }

    /** Joins by play, one each, since only that tells whether what waits is changed. */
    private static List<Call> joiningAll(int sets) {
        List<Call> calls = new ArrayList<>();
        for (int a = 0; a < sets; a++) {
            for (int b = sets - 1; b >= 0; b--) {
                calls.add(Call.play(seedToJoin(a, b, sets), 1));
                calls.add(Call.equal(a, b));
            }
        }
        return calls;
    }

    private static long seedToJoin(int a, int b, int sets) {
        for (long seed = 0;; seed++) {
            long first = seed * 6364136223846793005L + 1442695040888963407L;
            long second = first * 6364136223846793005L + 1442695040888963407L;
            if ((first >>> 33) % sets == a && (second >>> 33) % sets == b) {
                return seed;
            }
        }
    }

    private static List<Call> retainingAll() {
        List<Call> calls = new ArrayList<>();
        for (int s = 0; s < 6; s++) {
            for (long before : new long[] {1, 11, 21, 1000001, 2000000}) {
                calls.add(Call.retain(s, before));
                calls.add(Call.kept(s, 0));
                calls.add(Call.kept(s, 2));
            }
        }
        return calls;
    }

    private static Map<Call, Long> duesInNew() {
        Map<Call, Long> dues = new LinkedHashMap<>();
        for (int n : new int[] {-1, 0, 1, 3, 4, 5, 6, Integer.MIN_VALUE, Integer.MAX_VALUE}) {
            addNoDevice(dues, n);
            addNoSet(dues, n, 0);
            dues.put(Call.endBatch(n), 0L);
            dues.put(Call.play(1, n), -1L);
        }
        return dues;
    }

    private static Map<Call, Long> duesInUsed() {
        Map<Call, Long> dues = new LinkedHashMap<>();
        for (int n : NOT_INTS) {
            addNoDevice(dues, n);
            addNoSet(dues, n, 2);
        }
        addNoDevice(dues, 3);
        addNoDevice(dues, 4);
        addNoSet(dues, 4, 2);
        addNoSet(dues, 5, 1);
        addNoSet(dues, 6, 0);
        addWrongNumbers(dues, 0, 8);
        dues.put(Call.tell(0, 4, 0, 20, 6, 2), -1L);
        dues.put(Call.tell(0, 4, 3, 70, 7, 7), -1L);
        dues.put(Call.tell(1, 1, 0, 10, 5, 0), 0L);
        dues.put(Call.tell(1, 1, 0, 10, 5, 1000000), 0L);
        addWrongSettles(dues);
        dues.put(Call.batch(1), -1L);
        for (int b : new int[] {-1, 0, 2, 6, Integer.MIN_VALUE, Integer.MAX_VALUE}) {
            dues.put(Call.endBatch(b), 0L);
        }
        for (long number : new long[] {0, 4, 5, 6, 1000000}) {
            dues.put(Call.reset(2, number), 0L);
        }
        dues.put(Call.tell(2, 4, 0, 20, 6, 2), -1L);
        dues.put(Call.retain(2, 0), 0L);
        dues.put(Call.retain(2, 10), 0L);
        dues.put(Call.retain(2, 11), 0L);
        dues.put(Call.correct(2, 0, 0, 10, 50, 4), 1L);
        dues.put(Call.mark(0, 30, 45), 0L);
        dues.put(Call.mark(0, 30, 46), 0L);
        dues.put(Call.mark(0, 29, 50), 0L);
        dues.put(Call.mark(0, 31, 44), 0L);
        dues.put(Call.mark(0, 1000000, 44), 0L);
        addAsking(dues);
        return dues;
    }

    private static Map<Call, Long> duesInFull() {
        Map<Call, Long> dues = new LinkedHashMap<>();
        for (int n : NOT_INTS) {
            addNoDevice(dues, n);
            addNoSet(dues, n, 1);
        }
        addNoDevice(dues, 4);
        addNoSet(dues, 6, 1);
        addWrongNumbers(dues, 3, 99);
        dues.put(Call.device(), -1L);
        for (int d = 0; d < 4; d++) {
            dues.put(Call.tell(d, 1000, 0, 1, 1, 1), -1L);
            dues.put(Call.tell(d, 10, 0, 999, 1, 1), -1L);
            dues.put(Call.set(d), -1L);
        }
        dues.put(Call.tell(3, 99, 3, 0, 0, 9), 0L);
        dues.put(Call.tell(0, 6, 0, 6, 6, 6), -1L);
        dues.put(Call.tell(0, 7, 0, 7, 7, 7), -1L);
        for (long number : new long[] {0, 6, 7, 8, 1000000}) {
            dues.put(Call.reset(0, number), 0L);
        }
        for (int s = 0; s < 6; s++) {
            dues.put(Call.correct(s, 0, 0, 5, 5, 4), 0L);
            dues.put(correctionOfFull(s), 1L);
        }
        dues.put(Call.batch(5), -1L);
        for (int b : new int[] {-1, 1, Integer.MIN_VALUE, Integer.MAX_VALUE}) {
            dues.put(Call.endBatch(b), 0L);
        }
        dues.put(Call.mark(1, 28, 45), 0L);
        dues.put(Call.mark(1, 1000000, 1000000), 0L);
        return dues;
    }

    private static void addNoDevice(Map<Call, Long> dues, int d) {
        dues.put(Call.tell(d, 1000, 0, 1, 1, 1), -1L);
        dues.put(Call.reset(d, 9), 0L);
        dues.put(Call.life(d), -1L);
        dues.put(Call.set(d), -1L);
        dues.put(Call.correct(0, d, 0, 10, 77, 3), 0L);
        dues.put(Call.last(0, d, 0), NOTHING);
        dues.put(Call.known(0, d, 0, 1000000, 1000000), NOTHING);
        dues.put(Call.gap(0, d, 0), -1L);
        dues.put(Call.settle(2, d, 2, 0), -1L);
        dues.put(Call.mark(d, 1000, 1000), 0L);
        dues.put(Call.corrected(d, 5, 0), NOTHING);
    }

    private static void addNoSet(Map<Call, Long> dues, int s, int other) {
        dues.put(Call.join(s, other), -1L);
        dues.put(Call.join(other, s), -1L);
        dues.put(Call.join(s, s), -1L);
        dues.put(Call.correct(s, 0, 0, 10, 77, 3), 0L);
        dues.put(Call.last(s, 0, 0), NOTHING);
        dues.put(Call.known(s, 0, 0, 1000000, 1000000), NOTHING);
        dues.put(Call.gap(s, 0, 0), -1L);
        dues.put(Call.conflict(s, 0, 0), -1L);
        dues.put(Call.settle(s, 0, 2, 0), -1L);
        dues.put(Call.equal(s, other), 0L);
        dues.put(Call.equal(other, s), 0L);
        dues.put(Call.batch(s), -1L);
        dues.put(Call.retain(s, 1000), -1L);
        dues.put(Call.kept(s, 0), 0L);
    }

    /** For a device whose life allows that number: each of the numbers of a call is wrong in turn. */
    private static void addWrongNumbers(Map<Call, Long> dues, int d, long number) {
        for (long n : NO_NUMBERS) {
            dues.put(Call.tell(d, n, 0, 1, 1, 1), -1L);
            dues.put(Call.tell(d, number, 0, n, 1, 1), -1L);
            dues.put(Call.tell(d, number, 0, 1, 1, n), -1L);
            dues.put(Call.reset(d, n), 0L);
            dues.put(Call.correct(0, d, 0, n, 77, 3), 0L);
            dues.put(Call.correct(0, d, 0, 10, 77, n), 0L);
            dues.put(Call.mark(d, n, 1000), 0L);
            dues.put(Call.mark(d, 1000, n), 0L);
            dues.put(Call.corrected(d, n, 0), NOTHING);
        }
        for (long v : NO_VALUES) {
            dues.put(Call.tell(d, number, 0, 1, v, 1), -1L);
            dues.put(Call.correct(0, d, 0, 10, v, 3), 0L);
        }
        for (int kind : new int[] {-1, 4, Integer.MIN_VALUE, Integer.MAX_VALUE}) {
            dues.put(Call.tell(d, number, kind, 1, 1, 1), -1L);
            dues.put(Call.correct(0, d, kind, 10, 77, 3), 0L);
            dues.put(Call.settle(2, d, kind, 0), -1L);
            dues.put(Call.last(2, d, kind), NOTHING);
            dues.put(Call.known(2, d, kind, 1000000, 1000000), NOTHING);
            dues.put(Call.kept(2, kind), 0L);
        }
        for (long before : NO_BOUNDS) {
            dues.put(Call.retain(0, before), -1L);
        }
        for (int part : new int[] {-1, 2}) {
            dues.put(Call.corrected(d, 5, part), NOTHING);
        }
        for (int turns : new int[] {-1, 1001, Integer.MIN_VALUE, Integer.MAX_VALUE}) {
            dues.put(Call.play(1, turns), -1L);
        }
    }

    /** Set 2 has one key in conflict, of device 0 and kind 2, with two tellings. */
    private static void addWrongSettles(Map<Call, Long> dues) {
        for (int which : new int[] {-1, 2, 3, Integer.MIN_VALUE, Integer.MAX_VALUE}) {
            dues.put(Call.settle(2, 0, 2, which), -1L);
        }
        dues.put(Call.settle(2, 0, 0, 0), -1L);
        dues.put(Call.settle(2, 0, 1, 0), -1L);
        dues.put(Call.settle(2, 1, 2, 0), -1L);
        dues.put(Call.settle(0, 0, 0, 0), -1L);
        for (int k : new int[] {-1, 1, Integer.MIN_VALUE, Integer.MAX_VALUE}) {
            dues.put(Call.conflict(2, k, 0), -1L);
        }
        for (int what : new int[] {-1, 4}) {
            dues.put(Call.conflict(2, 0, what), -1L);
        }
        for (int k : new int[] {-1, 1, Integer.MIN_VALUE, Integer.MAX_VALUE}) {
            dues.put(Call.gap(2, 0, k), -1L);
        }
    }

    /** Those that are no refused ones, but change nothing either. */
    private static void addAsking(Map<Call, Long> dues) {
        dues.put(Call.life(0), 1L);
        dues.put(Call.last(0, 0, 0), 6L);
        dues.put(Call.known(0, 0, 0, 19, 3), 5L);
        dues.put(Call.gap(0, 0, 0), 2L);
        dues.put(Call.conflict(2, 0, 2), 8L);
        dues.put(Call.equal(0, 0), 1L);
        dues.put(Call.kept(2, 0), 5L);
        dues.put(Call.corrected(0, 20, 0), 85L);
        dues.put(Call.play(5, 0), 0L);
        dues.put(Call.join(2, 2), 1L);
    }
}
