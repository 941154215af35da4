import java.util.ArrayList;
import java.util.Collections;
import java.util.HashSet;
import java.util.List;
import java.util.Random;
import java.util.Set;
import java.util.TreeSet;

/** The document's first line, clause by clause, as laws that must hold in objects made at random. */
public final class FirstLineTest extends Answers {
    private static final int OBJECTS = 400;
    private static final int DEVICES = 3;
    private static final int KINDS = 2;

    public static void main(String[] args) {
        for (int seed = 0; seed < OBJECTS; seed++) {
            joinedInAnyOrder(new Random(seed));
            eachTellingOnce(new Random(seed));
            toldAsConflictsAndSettled(new Random(seed));
            correctionsByWhenTold(new Random(seed));
            livesNeverMix(new Random(seed));
            gaps(new Random(seed));
            batchesWholeOrNot(new Random(seed));
            sumsKept(new Random(seed));
            correctedBetweenMarks(new Random(seed));
        }
        end("the document's first line holds");
    }

    /** Sets 0 and 1 are empty; 2 to 5 have tellings, choices, corrections and bounds. */
    private static List<Call> something(Random random) {
        List<Call> calls = new ArrayList<>();
        for (int d = 0; d < DEVICES; d++) {
            calls.add(Call.device());
        }
        calls.add(Call.set(0));
        calls.add(Call.set(0));
        for (int s = 2; s < 6; s++) {
            for (int i = 0; i < 14; i++) {
                calls.add(someTelling(random));
            }
            if (random.nextInt(4) == 0) {
                calls.add(Call.reset(random.nextInt(DEVICES), 0));
            }
            int device = random.nextInt(DEVICES);
            calls.add(Call.set(device));
            for (int i = 0; i < 2; i++) {
                calls.add(Call.settle(s, device, random.nextInt(KINDS), random.nextInt(2)));
                calls.add(someCorrection(random, s));
            }
            calls.add(Call.retain(s, random.nextInt(4)));
        }
        return calls;
    }

    private static Call someTelling(Random random) {
        return Call.tell(random.nextInt(DEVICES), random.nextInt(5), random.nextInt(KINDS), random.nextInt(8),
            random.nextInt(3), random.nextInt(6));
    }

    private static Call someCorrection(Random random, int set) {
        return Call.correct(set, random.nextInt(DEVICES), random.nextInt(KINDS), random.nextInt(8),
            10 + random.nextInt(9), random.nextInt(4));
    }

    private static List<Call> asking(int set) {
        List<Call> calls = new ArrayList<>();
        for (int d = 0; d < DEVICES; d++) {
            calls.add(Call.gap(set, d, 0));
            calls.add(Call.gap(set, d, 1));
            for (int kind = 0; kind < KINDS; kind++) {
                calls.add(Call.last(set, d, kind));
                for (int second = 3; second < 8; second += 2) {
                    calls.add(Call.known(set, d, kind, second, 2));
                    calls.add(Call.known(set, d, kind, second, 5));
                }
            }
        }
        for (int k = 0; k < 3; k++) {
            for (int what = 0; what < 4; what++) {
                calls.add(Call.conflict(set, k, what));
            }
        }
        for (int kind = 0; kind < KINDS; kind++) {
            calls.add(Call.kept(set, kind));
        }
        return calls;
    }

    private static void dueAlike(String when, List<Call> calls, DeviceSets x, DeviceSets like) {
        for (Call call : calls) {
            due(call.name() + " " + when, call.on().applyAsLong(x), call.on().applyAsLong(like));
        }
    }

    private static List<Integer> shuffled(Random random) {
        List<Integer> sets = new ArrayList<>(List.of(2, 3, 4, 5));
        Collections.shuffle(sets, random);
        return sets;
    }

    private static void joinedInAnyOrder(Random random) {
        about("sets that are joined in any order");
        List<Call> calls = something(random);
        DeviceSets x = made(calls);
        DeviceSets y = made(calls);
        for (int s : shuffled(random)) {
            x.join(0, s);
        }
        List<Integer> order = shuffled(random);
        y.join(order.get(0), order.get(1));
        y.join(order.get(2), order.get(3));
        y.join(order.get(2), order.get(0));
        due("join(0, grouped)", y.join(0, order.get(2)), x.join(0, 0));
        dueAlike("joined one by one and in groups", asking(0), x, y);
        for (int s : order) {
            x.join(1, s);
        }
        due("equal, joined in two orders", x.equal(0, 1), true);
    }

    private static void eachTellingOnce(Random random) {
        about("each telling once");
        List<Call> calls = something(random);
        DeviceSets x = made(calls);
        DeviceSets y = made(calls);
        for (int s : shuffled(random)) {
            x.join(0, s);
            y.join(0, s);
        }
        for (int s : shuffled(random)) {
            y.join(0, s);
            y.join(s, 0);
            due("equal, when one more set has all", y.equal(0, s), true);
        }
        y.join(1, 0);
        due("play, when all sets are alike", y.play(random.nextLong(), 1000), 0);
        dueAlike("joined once and again", asking(0), x, y);
    }

    private static void toldAsConflictsAndSettled(Random random) {
        about("unlike ones told as conflicts and settled");
        DeviceSets x = made(something(random));
        int conflicts = 0;
        for (int s : shuffled(random)) {
            conflicts = x.join(0, s);
        }
        for (int rest = conflicts; rest > 0; rest--) {
            int k = random.nextInt(rest);
            int device = x.conflict(0, k, 0);
            int kind = x.conflict(0, k, 3);
            due("the key behind the last one in conflict", x.conflict(0, rest, 0), NONE);
            due("settle", x.settle(0, device, kind, random.nextInt(2)), rest - 1);
        }
        due("conflict, when all are settled", x.conflict(0, 0, 0), NONE);
    }

    private static void correctionsByWhenTold(Random random) {
        about("corrections by when they were told");
        List<Call> before = something(random);
        List<Call> corrections = new ArrayList<>();
        for (int i = 0; i < 12; i++) {
            corrections.add(someCorrection(random, 2));
        }
        DeviceSets x = made(before);
        corrections.forEach(call -> call.on().applyAsLong(x));
        Collections.shuffle(corrections, random);
        DeviceSets y = made(before);
        corrections.forEach(call -> call.on().applyAsLong(y));
        dueAlike("corrected in two orders", asking(2), x, y);
    }

    /** Each life tells every number once, with a value of its own, so that any mixing shows. */
    private static void livesNeverMix(Random random) {
        about("lives that never mix");
        DeviceSets x = withDevices(1);
        for (int life = 0; life < 4; life++) {
            for (int number = 3; number < 8; number++) {
                x.tell(0, number, 0, random.nextInt(8), 10 * life + number, 0);
            }
            x.set(0);
            due("last", x.last(life, 0, 0), 10 * life + 7);
            due("join(0, one of a later life)", x.join(0, life), 0);
            x.reset(0, random.nextInt(3));
        }
        x.tell(0, 4, 0, 0, 44, 0);
        x.tell(0, 6, 0, 0, 46, 0);
        int s = x.set(0);
        due("last, of a life with fewer numbers", x.last(s, 0, 0), 46);
        due("gap(.., 0), of a life with fewer numbers", x.gap(s, 0, 0), 5);
        due("gap(.., 1), of a life with fewer numbers", x.gap(s, 0, 1), NONE);
    }

    /** Numbers come in any order, and of any kind; retiring some of them opens no gap. */
    private static void gaps(Random random) {
        about("gaps");
        DeviceSets x = withDevices(1);
        TreeSet<Integer> told = new TreeSet<>();
        x.set(0);
        for (int i = 0; i < 20; i++) {
            int number = 7 + random.nextInt(40);
            told.add(number);
            x.tell(0, number, random.nextInt(4), random.nextInt(8), 0, 0);
        }
        x.join(0, x.set(0));
        x.retain(0, random.nextInt(9));
        int k = 0;
        for (int number = told.first(); number < told.last(); number++) {
            if (!told.contains(number)) {
                due("gap(0, 0, " + k + ")", x.gap(0, 0, k), number);
                k++;
            }
        }
        due("the gap behind the last one", x.gap(0, 0, k), NONE);
    }

    private static void batchesWholeOrNot(Random random) {
        about("batches that are seen whole or not");
        List<Call> calls = something(random);
        List<Integer> order = shuffled(random);
        int into = order.get(0);
        DeviceSets x = made(calls);
        DeviceSets without = made(calls);
        DeviceSets with = made(calls);
        int batch = x.batch(into);
        for (int i = 1; i < 4; i++) {
            x.join(into, order.get(i));
            with.join(into, order.get(i));
        }
        dueAlike("while a batch is open, as though nothing had come", asking(into), x, without);
        due("endBatch", x.endBatch(batch), true);
        dueAlike("when the batch has ended, as though all had come", asking(into), x, with);
    }

    private record Told(int device, long number, int kind, long second, long value) {
    }

    private static void sumsKept(Random random) {
        about("old ones retired with their sums kept");
        DeviceSets x = withDevices(DEVICES);
        Set<Told> told = new HashSet<>();
        for (int i = 0; i < 60; i++) {
            Told t = new Told(random.nextInt(DEVICES), random.nextInt(5), random.nextInt(KINDS), random.nextInt(8),
                random.nextInt(2000000001) - 1000000000);
            told.add(t);
            x.tell(t.device(), t.number(), t.kind(), t.second(), t.value(), 0);
        }
        for (int d = 0; d < DEVICES; d++) {
            x.set(d);
            x.join(0, d);
        }
        long retired = 0;
        for (int before = 0; before < 9; before += 1 + random.nextInt(3)) {
            long bound = before;
            retired += x.retain(0, bound);
            due("retired below " + bound, retired, told.stream().filter(t -> t.second() < bound).count());
            for (int kind = 0; kind < KINDS; kind++) {
                int ofKind = kind;
                due("kept below " + bound, x.kept(0, kind), told.stream()
                    .filter(t -> t.second() < bound && t.kind() == ofKind).mapToLong(Told::value).sum());
            }
        }
    }

    private static void correctedBetweenMarks(Random random) {
        about("clocks corrected between marks");
        DeviceSets x = withDevices(1);
        long[] seconds = new long[10];
        long[] truly = new long[10];
        for (int i = 0; i < 10; i++) {
            seconds[i] = (i == 0 ? 0 : seconds[i - 1]) + 1 + random.nextInt(99999);
            truly[i] = (i == 0 ? 0 : truly[i - 1]) + random.nextInt(3) * random.nextInt(49999);
            due("mark", x.mark(0, seconds[i], truly[i]), true);
        }
        for (int i = 0; i < 9; i++) {
            long run = seconds[i + 1] - seconds[i];
            long second = seconds[i] + Math.floorMod(random.nextLong(), run);
            long over = x.corrected(0, second, 0);
            long under = x.corrected(0, second, 1);
            due("on the line, at " + second, (over - truly[i] * under) * run,
                (second - seconds[i]) * (truly[i + 1] - truly[i]) * under);
            due("in lowest terms, at " + second, under > 0 && commonDivisor(over, under) == 1, true);
            dueFraction(x, 0, seconds[i], truly[i], 1);
        }
    }

    private static long commonDivisor(long a, long b) {
        return b == 0 ? a : commonDivisor(b, a % b);
    }
}
