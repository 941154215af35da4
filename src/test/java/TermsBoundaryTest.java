/**
 * The boundary cases that the document's part "Terms" names: a test for each sentence, at the last
 * input on either side.
 */
public final class TermsBoundaryTest extends Answers {
    public static void main(String[] args) {
        lastCall();
        devices();
        devicesNotYetMade();
        firstLife();
        numbersOfTellings();
        kindsOfTellings();
        secondsOfTellings();
        valuesOfTellings();
        timesOfTellings();
        keys();
        sameAndUnlike();
        mostTellings();
        numbersOfCorrections();
        sameCorrections();
        mostCorrections();
        sets();
        setsNotYetMade();
        firstBound();
        retired();
        waiting();
        nothingWaitsAtFirst();
        nothingWaitsOfABatchBefore();
        greaterBound();
        whatWaitsForTheOther();
        inConflict();
        conflictByChoice();
        seen();
        theOneThatHolds();
        end("the boundary cases of the terms hold");
    }

    private static void lastCall() {
        about("An object is used for at most 512 calls");
        DeviceSets x = withDevices(1);
        x.set(0);
        for (int i = 0; i < 255; i++) {
            due("batch", x.batch(0), i);
            due("endBatch, at last the 512th call", x.endBatch(i), true);
        }
        DeviceSets y = withDevices(2);
        y.tell(0, 0, 0, 0, 7, 0);
        y.set(0);
        y.set(1);
        for (int i = 0; i < 506; i++) {
            y.play(i, 1000);
        }
        due("the 512th call", y.last(1, 0, 0), 7);
    }

    private static void devices() {
        about("DEVICES, numbered from 0 on, 4 at most");
        DeviceSets x = withDevices(4);
        for (int d : new int[] {0, 3}) {
            due("life " + d, x.life(d), 0);
            due("tell " + d, x.tell(d, 0, 0, 1, 40 + d, 0), 1);
            due("set " + d, x.set(d), d == 0 ? 0 : 1);
            due("mark " + d, x.mark(d, 5, 9), true);
            due("corrected " + d, x.corrected(d, 5, 0), 9);
            due("reset " + d, x.reset(d, 0), true);
            due("correct " + d, x.correct(0, d, 0, 1, 50 + d, 0), true);
        }
        x.join(0, 1);
        for (int d : new int[] {0, 3}) {
            due("last " + d, x.last(0, d, 0), 40 + d);
            due("known " + d, x.known(0, d, 0, 1, 0), 50 + d);
        }
        for (int d : new int[] {-1, 4, Integer.MIN_VALUE, Integer.MAX_VALUE}) {
            dueNoDevice(x, d);
        }
    }

    private static void devicesNotYetMade() {
        about("DEVICES, numbered from 0 on: those that are there");
        for (int count = 0; count < 4; count++) {
            DeviceSets x = withDevices(count);
            if (count > 0) {
                due("life of the last", x.life(count - 1), 0);
                due("set of the last", x.set(count - 1), 0);
            }
            dueNoDevice(x, count);
        }
    }

    private static void dueNoDevice(DeviceSets x, int d) {
        due("tell " + d, x.tell(d, 0, 0, 1, 1, 0), NONE);
        due("reset " + d, x.reset(d, 0), false);
        due("life " + d, x.life(d), NONE);
        due("set " + d, x.set(d), NONE);
        due("correct " + d, x.correct(0, d, 0, 1, 1, 0), false);
        due("last " + d, x.last(0, d, 0), NOTHING);
        due("known " + d, x.known(0, d, 0, 1, 0), NOTHING);
        due("gap " + d, x.gap(0, d, 0), NONE);
        due("settle " + d, x.settle(0, d, 0, 0), NONE);
        due("mark " + d, x.mark(d, 5, 9), false);
        due("corrected " + d, x.corrected(d, 5, 0), NOTHING);
    }

    private static void firstLife() {
        about("each in its LIFE, 0 at first, whose numbers are from 0 on");
        DeviceSets x = withDevices(4);
        for (int d = 0; d < 4; d++) {
            due("life", x.life(d), 0);
            due("number -1", x.tell(d, -1, 0, 1, 1, 0), NONE);
            due("number 0", x.tell(d, 0, 0, 1, 1, 0), 1);
        }
    }

    private static void numbersOfTellings() {
        about("a number (0 .. 1000000)");
        for (long n : new long[] {0, 1000000}) {
            DeviceSets x = withDevices(1);
            due("number " + n, x.tell(0, n, 0, 1, 7, 0), 1);
            x.tell(0, n, 0, 2, 7, 0);
            x.set(0);
            due("it is so", x.conflict(0, 0, 2), n);
        }
        for (long n : NO_NUMBERS) {
            dueNotTold(n, 0, 1, 7, 0);
        }
    }

    private static void kindsOfTellings() {
        about("a kind (0 .. 3)");
        DeviceSets x = withDevices(1);
        for (int kind = 0; kind < 4; kind++) {
            due("kind " + kind, x.tell(0, 0, kind, 1, 7 + kind, 0), 1);
        }
        x.set(0);
        for (int kind = 0; kind < 4; kind++) {
            due("it is so", x.last(0, 0, kind), 7 + kind);
        }
        for (int kind : new int[] {-1, 4, Integer.MIN_VALUE, Integer.MAX_VALUE}) {
            dueNotTold(0, kind, 1, 7, 0);
            due("last of " + kind, x.last(0, 0, kind), NOTHING);
            due("known of " + kind, x.known(0, 0, kind, 1, 0), NOTHING);
        }
    }

    private static void secondsOfTellings() {
        about("a second (0 .. 1000000)");
        for (long second : new long[] {0, 1000000}) {
            DeviceSets x = withDevices(1);
            due("second " + second, x.tell(0, 0, 0, second, 7, 0), 1);
            x.set(0);
            due("not before it", x.known(0, 0, 0, second - 1, 0), NOTHING);
            due("at it", x.known(0, 0, 0, second, 0), 7);
        }
        for (long second : NO_NUMBERS) {
            dueNotTold(0, 0, second, 7, 0);
        }
    }

    private static void valuesOfTellings() {
        about("a value (-1000000000 .. 1000000000)");
        for (long v : new long[] {-1000000000L, -1, 0, 1000000000L}) {
            DeviceSets x = withDevices(1);
            due("value " + v, x.tell(0, 0, 0, 1, v, 0), 1);
            x.set(0);
            due("it is so", x.last(0, 0, 0), v);
        }
        for (long v : NO_VALUES) {
            dueNotTold(0, 0, 1, v, 0);
        }
    }

    private static void timesOfTellings() {
        about("when it was told, ON (0 .. 1000000)");
        for (long on : new long[] {0, 1000000}) {
            DeviceSets x = withDevices(1);
            due("on " + on, x.tell(0, 0, 0, 1, 7, on), 1);
            x.set(0);
            due("not before it", x.known(0, 0, 0, 1, on - 1), NOTHING);
            due("at it", x.known(0, 0, 0, 1, on), 7);
        }
        for (long on : NO_NUMBERS) {
            dueNotTold(0, 0, 1, 7, on);
        }
    }

    private static void dueNotTold(long number, int kind, long second, long v, long on) {
        DeviceSets x = withDevices(1);
        String call = "tell(0, " + number + ", " + kind + ", " + second + ", " + v + ", " + on + ")";
        due(call, x.tell(0, number, kind, second, v, on), NONE);
        x.set(0);
        due("tellings behind " + call, x.retain(0, 2000000), 0);
    }

    private static void keys() {
        about("Its KEY are the first four");
        DeviceSets x = withDevices(2);
        x.tell(0, 5, 1, 10, 7, 0);
        x.tell(1, 5, 1, 11, 7, 0);
        x.tell(0, 6, 1, 11, 7, 0);
        x.tell(0, 5, 2, 11, 7, 0);
        x.reset(0, 0);
        x.tell(0, 5, 1, 11, 7, 0);
        x.set(0);
        x.set(1);
        due("others by device, life, number or kind are no conflict", x.join(0, 1), 0);
        due("of another second: a conflict", x.tell(0, 5, 1, 12, 7, 0), 1);
        x.set(0);
        due("one", x.join(0, 2), 1);
    }

    private static void sameAndUnlike() {
        about("with the same second and value are the same telling; with others they are UNLIKE");
        DeviceSets x = withDevices(1);
        due("a telling", x.tell(0, 5, 1, 10, 7, 3), 1);
        due("the same", x.tell(0, 5, 1, 10, 7, 3), 0);
        due("the same, told at another time", x.tell(0, 5, 1, 10, 7, 4), 0);
        x.set(0);
        due("no conflict", x.join(0, 0), 0);
        due("a second less", x.tell(0, 5, 1, 9, 7, 3), 1);
        due("a second more", x.tell(0, 5, 1, 11, 7, 3), 1);
        due("a value less", x.tell(0, 5, 1, 10, 6, 3), 1);
        due("a value more", x.tell(0, 5, 1, 10, 8, 3), 1);
        due("a value with the other sign", x.tell(0, 5, 1, 10, -7, 3), 1);
        x.set(0);
        due("one key", x.join(1, 1), 1);
        due("of six tellings", x.retain(1, 2000000), 6);
    }

    private static void mostTellings() {
        about("There are 60 tellings at most, of all devices");
        DeviceSets x = withDevices(4);
        for (int i = 0; i < 59; i++) {
            due("telling", x.tell(i % 3, i, 0, i, i, 0), 1);
        }
        due("the 60th", x.tell(3, 0, 0, 0, 0, 0), 1);
        for (int d = 0; d < 4; d++) {
            due("the 61st", x.tell(d, 1000, 0, 0, 0, 0), NONE);
            due("set", x.set(d), d);
        }
        for (int d = 1; d < 4; d++) {
            x.join(0, d);
        }
        due("60 in all", x.retain(0, 2000000), 60);
    }

    private static void numbersOfCorrections() {
        about("A CORRECTION is of a device, a kind, a second, a value and when it was told (numbers likewise)");
        for (int d : new int[] {0, 3}) {
            for (int kind : new int[] {0, 3}) {
                dueCorrected(d, kind, 1, 7, 1);
            }
        }
        for (long n : new long[] {0, 1000000}) {
            dueCorrected(0, 0, n, 7, 1);
            dueCorrected(0, 0, 1, 7, n);
        }
        for (long v : new long[] {-1000000000L, -1, 0, 1000000000L}) {
            dueCorrected(0, 0, 1, v, 1);
        }
        for (int d : new int[] {-1, 4, Integer.MIN_VALUE, Integer.MAX_VALUE}) {
            dueNotCorrected(d, 0, 1, 7, 1);
            dueNotCorrected(0, d, 1, 7, 1);
        }
        for (long n : NO_NUMBERS) {
            dueNotCorrected(0, 0, n, 7, 1);
            dueNotCorrected(0, 0, 1, 7, n);
        }
        for (long v : NO_VALUES) {
            dueNotCorrected(0, 0, 1, v, 1);
        }
    }

    private static void dueCorrected(int device, int kind, long second, long v, long told) {
        DeviceSets x = withDevices(4);
        x.tell(device, 0, kind, second, 5, 0);
        x.set(device);
        String call = "correct(0, " + device + ", " + kind + ", " + second + ", " + v + ", " + told + ")";
        due(call, x.correct(0, device, kind, second, v, told), true);
        due("just before " + call, x.known(0, device, kind, second, told - 1), told == 0 ? NOTHING : 5);
        due("by " + call, x.known(0, device, kind, second, told), v);
    }

    private static void dueNotCorrected(int device, int kind, long second, long v, long told) {
        DeviceSets x = withDevices(4);
        x.set(0);
        x.set(0);
        String call = "correct(0, " + device + ", " + kind + ", " + second + ", " + v + ", " + told + ")";
        due(call, x.correct(0, device, kind, second, v, told), false);
        due("alike behind " + call, x.equal(0, 1), true);
    }

    private static void sameCorrections() {
        about("two that are alike in all are the same one");
        int[][] others = {{0, 0, 5, 7, 3}, {1, 0, 5, 7, 3}, {0, 1, 5, 7, 3}, {0, 0, 6, 7, 3}, {0, 0, 5, 8, 3}, {0, 0, 5, 7, 4}};
        for (int[] c : others) {
            for (int[] other : others) {
                DeviceSets x = withDevices(2);
                x.set(0);
                x.set(0);
                correct(x, 0, c);
                correct(x, 1, other);
                due("alike only if in all", x.equal(0, 1), c == other);
            }
        }
    }

    private static boolean correct(DeviceSets x, int set, int[] c) {
        return x.correct(set, c[0], c[1], c[2], c[3], c[4]);
    }

    private static void mostCorrections() {
        about("There are 20 at most, of all sets together (one that is there already is none more)");
        DeviceSets x = withDevices(1);
        for (int s = 0; s < 6; s++) {
            x.set(0);
        }
        for (int i = 0; i < 20; i++) {
            for (int s = 0; s < 6; s++) {
                due("correction " + i + " in set " + s, x.correct((s + i) % 6, 0, 0, 5, 7, i), true);
            }
        }
        for (int s = 0; s < 6; s++) {
            due("the 21st", x.correct(s, 0, 0, 5, 7, 20), false);
            due("one that is there", x.correct(s, 0, 0, 5, 7, 19), true);
        }
    }

    private static void sets() {
        about("SETS are numbered from 0 on, 6 at most");
        DeviceSets x = withDevices(1);
        tellUnlike(x, 0, 0, 0);
        x.tell(0, 2, 0, 30, 7, 0);
        x.tell(0, 1, 1, 3, 4, 0);
        for (int s = 0; s < 6; s++) {
            due("set", x.set(0), s);
        }
        for (int s : new int[] {0, 5}) {
            due("join " + s, x.join(s, s), 1);
            due("last " + s, x.last(s, 0, 0), 7);
            due("known " + s, x.known(s, 0, 0, 30, 0), 7);
            due("gap " + s, x.gap(s, 0, 0), NONE);
            due("conflict " + s, x.conflict(s, 0, 3), 0);
            due("settle " + s, x.settle(s, 0, 0, 0), 0);
            due("equal " + s, x.equal(s, s), true);
            due("retain " + s, x.retain(s, 4), 1);
            due("kept " + s, x.kept(s, 1), 4);
            due("correct " + s, x.correct(s, 0, 0, 30, 9, 0), true);
            due("batch " + s, x.batch(s), s == 0 ? 0 : 1);
        }
        for (int s : new int[] {-1, 6, Integer.MIN_VALUE, Integer.MAX_VALUE}) {
            dueNoSet(x, s);
        }
        due("equal, the first with the last", x.equal(0, 5), true);
    }

    private static void setsNotYetMade() {
        about("SETS are numbered from 0 on: those that are there");
        for (int count = 1; count < 6; count++) {
            DeviceSets x = withDevices(1);
            tellUnlike(x, 0, 0, 0);
            x.tell(0, 2, 0, 30, 7, 0);
            for (int s = 0; s < count; s++) {
                x.set(0);
            }
            dueNoSet(x, count);
            due("the last is there", x.join(count - 1, 0), 1);
        }
    }

    private static void dueNoSet(DeviceSets x, int s) {
        due("join " + s, x.join(s, 0), NONE);
        due("join with " + s, x.join(0, s), NONE);
        due("join of it with itself " + s, x.join(s, s), NONE);
        due("correct " + s, x.correct(s, 0, 0, 30, 9, 0), false);
        due("last " + s, x.last(s, 0, 0), NOTHING);
        due("known " + s, x.known(s, 0, 0, 30, 0), NOTHING);
        due("gap " + s, x.gap(s, 0, 0), NONE);
        due("conflict " + s, x.conflict(s, 0, 0), NONE);
        due("settle " + s, x.settle(s, 0, 0, 0), NONE);
        due("equal " + s, x.equal(s, 0), false);
        due("equal with " + s, x.equal(0, s), false);
        due("equal of it with itself " + s, x.equal(s, s), false);
        due("batch " + s, x.batch(s), NONE);
        due("retain " + s, x.retain(s, 4), NONE);
        due("kept " + s, x.kept(s, 1), 0);
    }

    private static void firstBound() {
        about("a BOUND (0 at first)");
        DeviceSets x = withDevices(1);
        x.tell(0, 0, 0, 0, 7, 0);
        x.set(0);
        x.set(0);
        due("none is retired", x.kept(0, 0), 0);
        due("it is seen", x.last(0, 0, 0), 7);
        due("the bound 0 is no greater one", x.retain(0, 0), 0);
        due("as before", x.equal(0, 1), true);
        due("the bound 1 is", x.retain(0, 1), 1);
        due("not as before", x.equal(0, 1), false);
        x.set(0);
        due("also of a set made behind that", x.equal(1, 2), true);
    }

    private static void retired() {
        about("tellings of a second below it are RETIRED");
        for (long bound : new long[] {1, 10, 999999, 1000000, 1000001, 2000000}) {
            DeviceSets x = withDevices(1);
            boolean hasOneAt = bound <= 1000000;
            long below = Math.min(bound - 1, 1000000);
            x.tell(0, 0, 0, below, 7, 0);
            if (hasOneAt) {
                x.tell(0, 1, 0, bound, 8, 0);
            }
            x.set(0);
            due("one below " + bound, x.retain(0, bound), 1);
            due("that is kept", x.kept(0, 0), 7);
            due("no one at it", x.last(0, 0, 0), hasOneAt ? 8 : NOTHING);
        }
    }

    private static void waiting() {
        about("While a BATCH is open for a set, all that joins bring WAITS, and is not in it until the batch ends");
        DeviceSets x = withDevices(1);
        for (int s = 0; s < 4; s++) {
            x.set(0);
            x.tell(0, s, 0, 10 + s, 70 + s, 0);
        }
        x.set(0);
        due("the last join before it", x.join(0, 1), 0);
        due("is in it", x.last(0, 0, 0), 70);
        due("batch", x.batch(0), 0);
        x.join(0, 2);
        due("the first join behind it waits", x.last(0, 0, 0), 70);
        x.join(0, 3);
        due("the last join before its end waits", x.last(0, 0, 0), 70);
        due("the end", x.endBatch(0), true);
        due("is in it", x.last(0, 0, 0), 72);
        due("all of it", x.equal(0, 3), true);
        x.join(0, 4);
        due("the first join behind the end is in it", x.last(0, 0, 0), 73);
        waitsInAllParts();
    }

    private static void waitsInAllParts() {
        DeviceSets x = withDevices(1);
        x.set(0);
        x.set(0);
        tellUnlike(x, 0, 0, 0);
        x.set(0);
        x.settle(2, 0, 0, 0);
        x.correct(2, 0, 0, 10, 50, 0);
        x.retain(2, 10);
        x.batch(0);
        x.join(0, 2);
        due("no telling, correction, choice or bound", x.equal(0, 1), true);
        x.endBatch(0);
        due("all of them", x.equal(0, 2), true);
        x.batch(2);
        due("what is in the set already waits too, and set 1 has nothing yet", x.play(1, 1000), 2);
    }

    private static void nothingWaitsAtFirst() {
        about("nothing waits when it begins");
        DeviceSets x = withDevices(1);
        x.set(0);
        x.set(0);
        x.batch(0);
        x.endBatch(0);
        due("nothing came", x.equal(0, 1), true);
        x.tell(0, 0, 0, 0, 7, 0);
        x.set(0);
        x.batch(0);
        x.join(0, 2);
        x.endBatch(1);
        x.batch(0);
        x.batch(1);
        x.endBatch(3);
        due("nothing of another set's batch", x.last(1, 0, 0), NOTHING);
    }

    /** Only the count of play shows whether what waited in a batch before still waits. */
    private static void nothingWaitsOfABatchBefore() {
        about("nothing waits when it begins, of a batch before");
        due("tellings", playAfterBatch(true, false, 0), 1);
        due("corrections", playAfterBatch(false, true, 0), 1);
        due("bound", playAfterBatch(false, false, 1), 1);
        due("nothing", playAfterBatch(false, false, 0), 0);
        DeviceSets x = withDevices(1);
        tellUnlike(x, 0, 0, 0);
        x.set(0);
        x.set(0);
        x.set(0);
        x.settle(1, 0, 0, 0);
        x.batch(0);
        x.join(0, 1);
        x.endBatch(0);
        x.batch(0);
        x.join(0, 2);
        due("the choice waits anew, and comes to set 2", x.play(6, 1000), 2);
    }

    private static int playAfterBatch(boolean told, boolean corrected, long bound) {
        DeviceSets x = withDevices(1);
        if (told) {
            x.tell(0, 0, 0, 0, 0, 0);
        }
        x.set(0);
        x.set(0);
        if (corrected) {
            x.correct(1, 0, 0, 0, 0, 0);
        }
        x.retain(1, bound);
        x.batch(0);
        x.join(0, 1);
        x.endBatch(0);
        x.batch(0);
        return x.play(6, 1000);
    }

    private static void greaterBound() {
        about("JOINING a set with another one: the greater bound");
        for (long other : new long[] {49, 50, 51}) {
            DeviceSets x = withDevices(1);
            for (int second = 48; second < 52; second++) {
                x.tell(0, second, 0, second, second, 0);
            }
            x.set(0);
            x.set(0);
            x.set(0);
            x.retain(0, 50);
            x.retain(1, other);
            x.retain(2, Math.max(50, other));
            x.join(0, 1);
            due("50 joined with " + other, x.equal(0, 2), true);
            due("the other keeps its own", x.retain(1, 52), 52 - other);
        }
    }

    private static void whatWaitsForTheOther() {
        about("What waits for the other is not in it");
        DeviceSets x = withDevices(1);
        x.set(0);
        x.set(0);
        x.tell(0, 0, 0, 5, 7, 0);
        x.set(0);
        x.batch(1);
        x.join(1, 2);
        x.join(0, 1);
        due("not brought", x.last(0, 0, 0), NOTHING);
        x.endBatch(0);
        due("not by the end", x.last(0, 0, 0), NOTHING);
        x.join(0, 1);
        due("brought behind the end", x.last(0, 0, 0), 7);
    }

    private static void inConflict() {
        about("A key is IN CONFLICT when there are unlike tellings of it in it that are not retired");
        DeviceSets x = withDevices(1);
        x.tell(0, 0, 0, 10, 5, 0);
        x.set(0);
        due("one telling", x.join(0, 0), 0);
        x.tell(0, 0, 0, 11, 5, 0);
        due("an unlike one that is not in the set", x.join(0, 0), 0);
        x.set(0);
        due("two", x.join(1, 1), 1);
        x.retain(1, 10);
        due("none is retired", x.join(1, 1), 1);
        x.retain(1, 11);
        due("one is retired", x.join(1, 1), 0);
        x.retain(1, 12);
        due("both are retired", x.join(1, 1), 0);
        x.tell(0, 0, 0, 10, 6, 0);
        x.tell(0, 0, 0, 11, 6, 0);
        x.set(0);
        x.retain(2, 11);
        due("two of four are retired", x.join(2, 2), 1);
    }

    private static void conflictByChoice() {
        about("IN CONFLICT: and none of these is chosen");
        DeviceSets x = withDevices(1);
        for (int second = 10; second < 13; second++) {
            x.tell(0, 0, 0, second, 5, 0);
        }
        x.set(0);
        due("none is chosen", x.join(0, 0), 1);
        due("the first is chosen", x.settle(0, 0, 0, 0), 0);
        x.retain(0, 10);
        due("the chosen one is not retired", x.join(0, 0), 0);
        x.retain(0, 11);
        due("the chosen one is retired, two are not", x.join(0, 0), 1);
        x.retain(0, 12);
        due("one is left", x.join(0, 0), 0);
    }

    private static void seen() {
        about("SEEN that are not retired, and whose key has no other one that isn't either");
        DeviceSets x = withDevices(1);
        x.set(0);
        due("none in an empty set", x.last(0, 0, 0), NOTHING);
        x.tell(0, 0, 0, 10, 5, 0);
        x.set(0);
        due("the only one", x.last(1, 0, 0), 5);
        x.tell(0, 0, 0, 11, 6, 0);
        x.set(0);
        due("two, none chosen", x.last(2, 0, 0), NOTHING);
        x.retain(2, 11);
        due("the other is retired", x.last(2, 0, 0), 6);
        x.retain(2, 12);
        due("both are", x.last(2, 0, 0), NOTHING);
    }

    private static void theOneThatHolds() {
        about("SEEN: of the chosen ones (not retired) that with the least second, then the least value");
        DeviceSets x = withDevices(1);
        long[][] all = {{10, 6}, {10, 7}, {11, -9}, {11, 5}, {12, 4}};
        for (long[] t : all) {
            x.tell(0, 0, 0, t[0], t[1], 0);
        }
        for (int s = 0; s < 4; s++) {
            x.set(0);
            x.settle(s, 0, 0, s);
        }
        x.set(0);
        long[] holds = {5, -9, 7, 6};
        for (int s = 3; s >= 0; s--) {
            x.join(4, s);
            due("the chosen ones down to " + s, x.last(4, 0, 0), holds[3 - s]);
        }
        x.retain(4, 10);
        due("none of them retired", x.last(4, 0, 0), 6);
        x.retain(4, 11);
        due("two of them retired", x.last(4, 0, 0), -9);
        x.retain(4, 12);
        due("all of them retired, one is left", x.last(4, 0, 0), 4);
    }
}
