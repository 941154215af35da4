import java.math.BigInteger;

/**
 * The boundary cases that the promises name: a test for each sentence, at the last input on either
 * side. The limits of numbers, devices and sets, which all promises share, are in TermsBoundaryTest.
 */
public final class PromisesBoundaryTest extends Answers {
    public static void main(String[] args) {
        newObject();
        devicesFull();
        toldBefore();
        firstOnStays();
        toldBeforeWhenFull();
        belowTheLifesFirst();
        sixtyFirst();
        resetNumbers();
        hundredthLife();
        lifeOfNone();
        setsFull();
        setSoFar();
        joinItself();
        joinCounts();
        joinOfNone();
        correctAtOnce();
        correctThere();
        correctTwentyFirst();
        lastGreatest();
        lastOfNone();
        knownUpToSecond();
        knownUpToOn();
        knownGreatest();
        knownCorrection();
        knownCorrectionToldLast();
        knownOfNone();
        gapPlaces();
        gapBetween();
        gapOfGreatestLife();
        gapOfNone();
        conflictPlaces();
        conflictOrder();
        settlePlaces();
        settleOfNotRetired();
        settleFirstKey();
        settleOfNone();
        equalParts();
        equalOfNone();
        batchNumbers();
        batchOpen();
        endBatchNumbers();
        retainLimits();
        retainGreater();
        retainCount();
        keptSums();
        keptOfNone();
        markLimits();
        markRising();
        markEleventh();
        correctedLimits();
        correctedWithoutMarks();
        correctedAtMarks();
        correctedOutside();
        correctedLowestTerms();
        correctedOfNone();
        playTurns();
        playSets();
        playWraps();
        playCounts();
        playCountsWaiting();
        end("the boundary cases of the promises hold");
    }

    private static DeviceSets withSets(DeviceSets x, int device, int count) {
        for (int i = 0; i < count; i++) {
            x.set(device);
        }
        return x;
    }

    private static void newObject() {
        about("1: No devices, no sets");
        for (int n : new int[] {-1, 0, 1, 3, 4, 5, 6}) {
            DeviceSets x = new DeviceSets();
            due("tell", x.tell(n, 0, 0, 0, 0, 0), NONE);
            due("reset", x.reset(n, 0), false);
            due("life", x.life(n), NONE);
            due("set", x.set(n), NONE);
            due("join", x.join(n, n), NONE);
            due("correct", x.correct(n, 0, 0, 0, 0, 0), false);
            due("last", x.last(n, 0, 0), NOTHING);
            due("known", x.known(n, 0, 0, 0, 0), NOTHING);
            due("gap", x.gap(n, 0, 0), NONE);
            due("conflict", x.conflict(n, 0, 0), NONE);
            due("settle", x.settle(n, 0, 0, 0), NONE);
            due("equal", x.equal(n, n), false);
            due("batch", x.batch(n), NONE);
            due("endBatch", x.endBatch(n), false);
            due("retain", x.retain(n, 0), NONE);
            due("kept", x.kept(n, 0), 0);
            due("mark", x.mark(n, 0, 0), false);
            due("corrected", x.corrected(n, 0, 0), NOTHING);
            due("play", x.play(n, n), NONE);
            due("the first device", x.device(), 0);
            due("the first set", x.set(0), 0);
            due("the first batch", x.batch(0), 0);
        }
    }

    private static void devicesFull() {
        about("2: NONE when there are 4");
        DeviceSets x = withDevices(3);
        due("the fourth", x.device(), 3);
        due("a fifth", x.device(), NONE);
        due("a fifth again", x.device(), NONE);
        due("the fourth is there", x.life(3), 0);
        due("no fifth is", x.life(4), NONE);
    }

    private static void toldBefore() {
        about("3: 0 when that same telling was told before");
        DeviceSets x = withDevices(2);
        due("the first time", x.tell(0, 1, 2, 3, 4, 5), 1);
        due("the second time", x.tell(0, 1, 2, 3, 4, 5), 0);
        due("the third time", x.tell(0, 1, 2, 3, 4, 5), 0);
        due("by another device", x.tell(1, 1, 2, 3, 4, 5), 1);
        due("with another number", x.tell(0, 2, 2, 3, 4, 5), 1);
        due("of another kind", x.tell(0, 1, 1, 3, 4, 5), 1);
        due("of another second", x.tell(0, 1, 2, 2, 4, 5), 1);
        due("with another value", x.tell(0, 1, 2, 3, 3, 5), 1);
        due("with another on", x.tell(0, 1, 2, 3, 4, 6), 0);
        due("with an on that is not such", x.tell(0, 1, 2, 3, 4, 1000001), NONE);
        x.reset(0, 0);
        due("in another life", x.tell(0, 1, 2, 3, 4, 5), 1);
        due("again there", x.tell(0, 1, 2, 3, 4, 5), 0);
    }

    private static void firstOnStays() {
        about("3: the first on stays");
        for (long other : new long[] {0, 4, 6, 1000000}) {
            DeviceSets x = withDevices(1);
            x.tell(0, 0, 0, 0, 7, 5);
            x.set(0);
            due("told again on " + other, x.tell(0, 0, 0, 0, 7, other), 0);
            x.set(0);
            for (int s = 0; s < 2; s++) {
                due("one before the first", x.known(s, 0, 0, 0, 4), NOTHING);
                due("the first", x.known(s, 0, 0, 0, 5), 7);
            }
        }
    }

    private static DeviceSets withSixtyTold() {
        DeviceSets x = withDevices(2);
        for (int i = 0; i < 60; i++) {
            due("tell " + i, x.tell(0, i, i % 4, i, i, 5), 1);
        }
        return x;
    }

    private static void toldBeforeWhenFull() {
        about("3: 0 .. also when there are 60");
        DeviceSets x = withSixtyTold();
        for (int i : new int[] {0, 59}) {
            due("told before", x.tell(0, i, i % 4, i, i, 5), 0);
            due("told before, on another", x.tell(0, i, i % 4, i, i, 4), 0);
        }
        due("told before, on what is not such", x.tell(0, 0, 0, 0, 0, -1), NONE);
        x.set(0);
        due("the first on stays", x.known(0, 0, 3, 59, 4), NOTHING);
        due("the first on stays", x.known(0, 0, 3, 59, 5), 59);
        due("a number below the life's", x.reset(0, 60), true);
        due("is refused though it was told", x.tell(0, 59, 3, 59, 59, 5), NONE);
    }

    private static void belowTheLifesFirst() {
        about("3: NONE when the number is less than the one with which this life began");
        for (long first : new long[] {1, 500, 1000000, 3, 0}) {
            DeviceSets x = withDevices(2);
            due("reset", x.reset(0, first), true);
            due("one below " + first, x.tell(0, first - 1, 0, 0, 0, 0), NONE);
            due("at " + first, x.tell(0, first, 0, 0, 0, 0), 1);
            due("the other device is in its first life", x.tell(1, 0, 0, 0, 0, 0), 1);
            due("a life with a lesser number", x.reset(0, 0), true);
            due("at 0", x.tell(0, 0, 0, 0, 0, 0), 1);
        }
        DeviceSets y = withDevices(1);
        y.tell(0, 5, 0, 0, 0, 0);
        due("less than one told before, in one life", y.tell(0, 4, 0, 0, 0, 0), 1);
    }

    private static void sixtyFirst() {
        about("3: NONE when it would be the 61st");
        DeviceSets x = withSixtyTold();
        due("a new key", x.tell(0, 60, 0, 0, 0, 0), NONE);
        due("an unlike one", x.tell(0, 0, 0, 0, 1, 5), NONE);
        due("another device", x.tell(1, 0, 0, 0, 0, 5), NONE);
        due("again", x.tell(1, 0, 0, 0, 0, 5), NONE);
        x.set(0);
        x.set(1);
        due("the 60 are as they were", x.retain(0, 2000000), 60);
        due("none of the other device", x.retain(1, 2000000), 0);
        due("with their values", x.kept(0, 0) + x.kept(0, 1) + x.kept(0, 2) + x.kept(0, 3), 60 * 59 / 2);
        x.reset(0, 0);
        due("another life", x.tell(0, 0, 0, 0, 0, 5), NONE);
    }

    private static void resetNumbers() {
        about("4: with numbers from one on (0 .. 1000000)");
        for (long n : new long[] {0, 1000000}) {
            DeviceSets x = withDevices(1);
            due("reset " + n, x.reset(0, n), true);
            due("life", x.life(0), 1);
        }
        for (long n : NO_NUMBERS) {
            DeviceSets x = withDevices(1);
            due("reset " + n, x.reset(0, n), false);
            due("life", x.life(0), 0);
            due("its numbers are from 0 on", x.tell(0, 0, 0, 0, 0, 0), 1);
        }
    }

    private static void hundredthLife() {
        about("4: false when it is in its 100th");
        DeviceSets x = withDevices(2);
        for (int life = 1; life < 99; life++) {
            x.reset(0, 0);
        }
        due("its 99th life", x.life(0), 98);
        due("reset in it", x.reset(0, 7), true);
        due("its 100th life", x.life(0), 99);
        due("reset in it", x.reset(0, 3), false);
        due("it is still in it", x.life(0), 99);
        due("one below its first number", x.tell(0, 6, 0, 0, 0, 0), NONE);
        due("its first number", x.tell(0, 7, 0, 0, 0, 0), 1);
        due("the other device", x.reset(1, 0), true);
    }

    private static void lifeOfNone() {
        about("5: NONE when there is none such");
        DeviceSets x = withDevices(2);
        due("-1", x.life(-1), NONE);
        due("the first", x.life(0), 0);
        due("the last", x.life(1), 0);
        due("one behind the last", x.life(2), NONE);
    }

    private static void setsFull() {
        about("6: NONE when there are 6, or there is no such device");
        DeviceSets x = withSets(withDevices(1), 0, 4);
        due("no such device", x.set(1), NONE);
        due("no such device", x.set(-1), NONE);
        due("the fifth", x.set(0), 4);
        due("the sixth", x.set(0), 5);
        due("a seventh", x.set(0), NONE);
        due("a seventh of no device", x.set(1), NONE);
        due("the sixth is there", x.equal(5, 0), true);
        due("no seventh is", x.equal(6, 6), false);
    }

    private static void setSoFar() {
        about("6: with all tellings of a device so far");
        DeviceSets x = withDevices(2);
        due("no telling so far", x.set(0), 0);
        due("one by the other", x.tell(1, 0, 0, 0, 1, 0), 1);
        x.set(0);
        x.tell(0, 0, 0, 0, 1, 0);
        x.set(0);
        x.tell(0, 1, 0, 0, 1, 0);
        for (int s = 0; s < 3; s++) {
            due("set " + s, x.retain(s, 2000000), s / 2);
        }
        DeviceSets y = withSixtyTold();
        y.set(0);
        due("all 60", y.retain(0, 2000000), 60);
    }

    private static void joinItself() {
        about("7: Joins a set with another one (or itself)");
        DeviceSets x = withDevices(1);
        withSets(x, 0, 2);
        due("an empty one with itself", x.join(0, 0), 0);
        tellUnlike(x, 0, 0, 0);
        withSets(x, 0, 2);
        due("with itself", x.join(2, 2), 1);
        due("as before", x.equal(2, 3), true);
        due("an empty one with a full one", x.join(0, 2), 1);
        due("now alike", x.equal(0, 2), true);
        due("a full one with an empty one", x.join(2, 1), 1);
        due("as before", x.equal(2, 3), true);
        due("the empty one too", x.join(1, 1), 0);
    }

    private static void joinCounts() {
        about("7: how many keys are in conflict in it then");
        DeviceSets x = withDevices(1);
        for (int i = 0; i < 30; i++) {
            x.tell(0, i, 0, 10, 5, 0);
        }
        x.set(0);
        due("none of 30", x.join(0, 0), 0);
        for (int i = 0; i < 30; i++) {
            x.tell(0, i, 0, 20, 5, 0);
        }
        x.set(0);
        due("all of 30", x.join(0, 1), 30);
        due("while a batch is open", x.batch(0), 0);
        x.retain(1, 11);
        due("what waits counts not", x.join(0, 1), 30);
        due("the other", x.join(1, 1), 0);
        x.endBatch(0);
        due("behind its end", x.join(0, 0), 0);
    }

    private static void joinOfNone() {
        about("7: NONE when there are none such");
        DeviceSets x = withSets(withDevices(1), 0, 2);
        int[][] pairs = {{-1, 0}, {0, -1}, {2, 0}, {0, 2}, {2, 2}, {-1, -1}, {-1, 2}};
        for (int[] pair : pairs) {
            due("join", x.join(pair[0], pair[1]), NONE);
        }
        due("the first with the last", x.join(0, 1), 0);
        due("the last with the first", x.join(1, 0), 0);
    }

    private static void correctAtOnce() {
        about("8: A correction comes into a set, at once");
        DeviceSets x = withDevices(1);
        x.tell(0, 0, 0, 0, 7, 0);
        withSets(x, 0, 2);
        x.batch(0);
        due("while a batch is open", x.correct(0, 0, 0, 0, 8, 0), true);
        due("it is there", x.known(0, 0, 0, 0, 0), 8);
        due("into that set alone", x.known(1, 0, 0, 0, 0), 7);
    }

    private static void correctThere() {
        about("8: true (also when it was there)");
        DeviceSets x = withSets(withDevices(1), 0, 2);
        due("it was not there", x.correct(0, 0, 0, 0, 8, 0), true);
        due("it was there", x.correct(0, 0, 0, 0, 8, 0), true);
        due("it was in another set", x.correct(1, 0, 0, 0, 8, 0), true);
        due("alike", x.equal(0, 1), true);
    }

    private static void correctTwentyFirst() {
        about("8: false when it would be the 21st");
        DeviceSets x = withDevices(1);
        x.tell(0, 0, 0, 0, 7, 0);
        withSets(x, 0, 3);
        for (int i = 0; i < 19; i++) {
            x.correct(i % 2, 0, 0, 0, i, i);
        }
        due("the 20th", x.correct(0, 0, 0, 0, 19, 19), true);
        due("the 21st", x.correct(0, 0, 0, 0, 20, 20), false);
        due("the 21st into an empty set", x.correct(2, 0, 0, 0, 20, 20), false);
        due("one that is there, into that set", x.correct(2, 0, 0, 0, 0, 0), true);
        due("it is in it", x.known(2, 0, 0, 0, 1000000), 0);
        due("the 20th is the last", x.known(0, 0, 0, 0, 1000000), 19);
    }

    private static void lastGreatest() {
        about("9: with the greatest life, of these with the greatest number");
        DeviceSets x = withDevices(1);
        x.tell(0, 999999, 0, 9, 1, 9);
        x.set(0);
        due("one", x.last(0, 0, 0), 1);
        x.tell(0, 1000000, 0, 0, 2, 0);
        x.set(0);
        due("a number more", x.last(1, 0, 0), 2);
        for (int life = 1; life < 99; life++) {
            x.reset(0, 0);
        }
        x.tell(0, 5, 0, 0, 3, 0);
        x.set(0);
        due("life 98", x.last(2, 0, 0), 3);
        x.reset(0, 0);
        x.tell(0, 0, 0, 0, 4, 0);
        x.set(0);
        due("life 99", x.last(3, 0, 0), 4);
        x.retain(3, 1);
        due("retired, but for the first", x.last(3, 0, 0), 1);
    }

    private static void lastOfNone() {
        about("9: Long.MIN_VALUE when there is none");
        DeviceSets x = withDevices(2);
        x.set(0);
        due("an empty set", x.last(0, 0, 0), NOTHING);
        x.tell(0, 0, 1, 5, 0, 0);
        x.set(0);
        due("of its kind", x.last(1, 0, 1), 0);
        due("of the kind before", x.last(1, 0, 0), NOTHING);
        due("of the kind behind", x.last(1, 0, 2), NOTHING);
        due("of another device", x.last(1, 1, 1), NOTHING);
        due("of a set behind the last", x.last(2, 0, 1), NOTHING);
        x.retain(1, 5);
        due("not retired", x.last(1, 0, 1), 0);
        x.retain(1, 6);
        due("retired", x.last(1, 0, 1), NOTHING);
    }

    private static void knownUpToSecond() {
        about("10: of no later second");
        DeviceSets x = withDevices(1);
        x.tell(0, 0, 0, 0, 1, 0);
        x.tell(0, 1, 0, 1000000, 2, 0);
        x.set(0);
        long[][] rows = {{Long.MIN_VALUE, NOTHING}, {-1, NOTHING}, {0, 1}, {999999, 1}, {1000000, 2},
            {1000001, 2}, {1L << 32, 2}, {Long.MAX_VALUE, 2}};
        for (long[] row : rows) {
            due("for second " + row[0], x.known(0, 0, 0, row[0], 0), row[1]);
        }
    }

    private static void knownUpToOn() {
        about("10: told no later than on");
        DeviceSets x = withDevices(1);
        x.tell(0, 0, 0, 7, 1, 0);
        x.tell(0, 1, 0, 8, 2, 1000000);
        x.set(0);
        long[][] rows = {{Long.MIN_VALUE, NOTHING}, {-1, NOTHING}, {0, 1}, {999999, 1}, {1000000, 2},
            {1000001, 2}, {1L << 32, 2}, {Long.MAX_VALUE, 2}};
        for (long[] row : rows) {
            due("on " + row[0], x.known(0, 0, 0, 8, row[0]), row[1]);
        }
    }

    private static void knownGreatest() {
        about("10: the one with the greatest second, then life, then number");
        DeviceSets x = withDevices(1);
        x.tell(0, 1000000, 0, 10, 1, 0);
        x.tell(0, 0, 0, 11, 2, 0);
        x.set(0);
        due("the second before the number", x.known(0, 0, 0, 11, 0), 2);
        x.tell(0, 1, 0, 11, 3, 0);
        x.set(0);
        due("of one second and life, the number", x.known(1, 0, 0, 11, 0), 3);
        x.reset(0, 0);
        x.tell(0, 0, 0, 11, 4, 0);
        x.tell(0, 2, 0, 10, 5, 0);
        x.set(0);
        due("of one second, the life before the number", x.known(2, 0, 0, 11, 0), 4);
        due("a second before", x.known(2, 0, 0, 10, 0), 5);
        x.tell(0, 5, 0, 12, 6, 1);
        x.set(0);
        due("one that was told later", x.known(3, 0, 0, 12, 0), 4);
        due("on when it was told", x.known(3, 0, 0, 12, 1), 6);
    }

    private static void knownCorrection() {
        about("10: if the set has corrections for that device and kind and the second of that telling");
        int[][] rows = {{0, 1, 10, 1}, {1, 1, 10, 0}, {0, 0, 10, 0}, {0, 2, 10, 0}, {0, 1, 9, 0}, {0, 1, 11, 0}};
        for (int[] row : rows) {
            DeviceSets x = withDevices(2);
            x.tell(0, 0, 1, 10, 5, 0);
            withSets(x, 0, 2);
            due("correct", x.correct(0, row[0], row[1], row[2], 8, 0), true);
            due("for the telling's second", x.known(0, 0, 1, 10, 0), row[3] == 1 ? 8 : 5);
            due("for a later one", x.known(0, 0, 1, 11, 0), row[3] == 1 ? 8 : 5);
            due("for one before", x.known(0, 0, 1, 9, 0), NOTHING);
            due("in another set", x.known(1, 0, 1, 10, 0), 5);
        }
    }

    private static void knownCorrectionToldLast() {
        about("10: told no later than on, of these the one told last (of these with the greatest value)");
        DeviceSets x = withDevices(1);
        x.tell(0, 0, 0, 10, 5, 2);
        x.set(0);
        x.correct(0, 0, 0, 10, 90, 1);
        x.correct(0, 0, 0, 10, 60, 4);
        x.correct(0, 0, 0, 10, 62, 4);
        x.correct(0, 0, 0, 10, 61, 4);
        x.correct(0, 0, 0, 10, -1000000000L, 1000000);
        long[][] rows = {{0, NOTHING}, {1, NOTHING}, {2, 90}, {3, 90}, {4, 62}, {5, 62}, {999999, 62},
            {1000000, -1000000000L}, {1000001, -1000000000L}, {Long.MAX_VALUE, -1000000000L}};
        for (long[] row : rows) {
            due("on " + row[0], x.known(0, 0, 0, 10, row[0]), row[1]);
        }
    }

    private static void knownOfNone() {
        about("10: Long.MIN_VALUE when there is no such telling");
        DeviceSets x = withDevices(2);
        x.set(0);
        x.correct(0, 0, 0, 10, 90, 0);
        due("a correction alone", x.known(0, 0, 0, 10, 0), NOTHING);
        tellUnlike(x, 0, 0, 0);
        x.set(0);
        due("one in conflict", x.known(1, 0, 0, 20, 0), NOTHING);
        x.retain(1, 20);
        due("one not retired", x.known(1, 0, 0, 20, 0), 5);
        x.retain(1, 21);
        due("all retired", x.known(1, 0, 0, 20, 0), NOTHING);
    }

    private static void gapPlaces() {
        about("11: The k-th gap, from 0 on, rising");
        DeviceSets x = withDevices(1);
        for (int n : new int[] {9, 3, 6, 4}) {
            x.tell(0, n, n % 4, 0, 0, 0);
        }
        x.set(0);
        int[] gaps = {5, 7, 8};
        for (int k = 0; k < 3; k++) {
            due("gap " + k, x.gap(0, 0, k), gaps[k]);
        }
        for (int k : new int[] {-1, 3, Integer.MIN_VALUE, Integer.MAX_VALUE}) {
            due("gap " + k, x.gap(0, 0, k), NONE);
        }
    }

    private static void gapBetween() {
        about("11: the numbers between the least and the greatest that no telling of any kind has");
        DeviceSets x = withDevices(1);
        x.tell(0, 0, 0, 0, 0, 0);
        x.set(0);
        due("one number", x.gap(0, 0, 0), NONE);
        x.tell(0, 1, 3, 0, 0, 0);
        x.set(0);
        due("two in a row", x.gap(1, 0, 0), NONE);
        x.tell(0, 3, 1, 0, 0, 0);
        x.set(0);
        due("one left out", x.gap(2, 0, 0), 2);
        due("no second one", x.gap(2, 0, 1), NONE);
        x.tell(0, 1000000, 2, 0, 0, 0);
        x.set(0);
        due("up to the greatest: second", x.gap(3, 0, 1), 4);
        due("up to the greatest: last", x.gap(3, 0, 999996), 999999);
        due("up to the greatest: none more", x.gap(3, 0, 999997), NONE);
        x.retain(3, 2000000);
        due("retired ones too", x.gap(3, 0, 0), 2);
    }

    private static void gapOfGreatestLife() {
        about("11: with the greatest life among them");
        DeviceSets x = withDevices(2);
        x.tell(0, 0, 0, 0, 0, 0);
        x.tell(0, 2, 0, 0, 0, 0);
        x.reset(0, 5);
        x.set(0);
        due("the life has no tellings yet", x.gap(0, 0, 0), 1);
        x.tell(0, 7, 0, 0, 0, 0);
        x.set(0);
        due("one telling; what the life began with is no bound", x.gap(1, 0, 0), NONE);
        x.tell(0, 9, 0, 0, 0, 0);
        x.set(0);
        due("two tellings", x.gap(2, 0, 0), 8);
        due("none of the life before", x.gap(2, 0, 1), NONE);
        due("the set before has one of them", x.gap(1, 0, 0), NONE);
    }

    private static void gapOfNone() {
        about("11: NONE when there is none such");
        DeviceSets x = withDevices(2);
        x.set(0);
        due("an empty set", x.gap(0, 0, 0), NONE);
        x.tell(0, 0, 0, 0, 0, 0);
        x.tell(0, 2, 0, 0, 0, 0);
        x.set(0);
        due("the device", x.gap(1, 0, 0), 1);
        due("a device of which the set has none", x.gap(1, 1, 0), NONE);
    }

    private static void conflictPlaces() {
        about("12: the k-th key, what = 0 .. 3, NONE when there is none such");
        DeviceSets x = withDevices(1);
        x.set(0);
        due("an empty set", x.conflict(0, 0, 0), NONE);
        x.reset(0, 0);
        tellUnlike(x, 0, 6, 2);
        tellUnlike(x, 0, 7, 3);
        x.tell(0, 8, 3, 0, 0, 0);
        x.set(0);
        int[][] keys = {{0, 1, 6, 2}, {0, 1, 7, 3}};
        for (int what = 0; what < 4; what++) {
            due("k -1", x.conflict(1, -1, what), NONE);
            due("k 0, " + what, x.conflict(1, 0, what), keys[0][what]);
            due("k 1, " + what, x.conflict(1, 1, what), keys[1][what]);
            due("k 2", x.conflict(1, 2, what), NONE);
            due("the greatest k", x.conflict(1, Integer.MAX_VALUE, what), NONE);
            due("the least k", x.conflict(1, Integer.MIN_VALUE, what), NONE);
        }
        for (int what : new int[] {-1, 4, Integer.MIN_VALUE, Integer.MAX_VALUE}) {
            due("what " + what, x.conflict(1, 0, what), NONE);
        }
        DeviceSets y = withDevices(1);
        for (int i = 0; i < 30; i++) {
            tellUnlike(y, 0, i, 0);
        }
        y.set(0);
        due("the last of 30", y.conflict(0, 29, 2), 29);
        due("none behind it", y.conflict(0, 30, 2), NONE);
    }

    private static void conflictOrder() {
        about("12: by device, life, number, kind");
        DeviceSets x = withDevices(2);
        tellUnlike(x, 1, 0, 0);
        tellUnlike(x, 0, 3, 0);
        tellUnlike(x, 0, 2, 1);
        tellUnlike(x, 0, 2, 0);
        x.reset(0, 0);
        tellUnlike(x, 0, 1, 3);
        x.set(0);
        x.set(1);
        due("five", x.join(1, 0), 5);
        int[][] keys = {{0, 0, 2, 0}, {0, 0, 2, 1}, {0, 0, 3, 0}, {0, 1, 1, 3}, {1, 0, 0, 0}};
        for (int k = 0; k < 5; k++) {
            for (int what = 0; what < 4; what++) {
                due("conflict " + k + ", " + what, x.conflict(1, k, what), keys[k][what]);
            }
        }
    }

    private static void settlePlaces() {
        about("13: the which-th telling (from 0 on, by seconds, then values)");
        long[][] sorted = {{10, -5}, {10, 4}, {11, -9}, {11, -8}};
        for (int which = -1; which < 5; which++) {
            DeviceSets x = withDevices(1);
            for (int i : new int[] {3, 1, 0, 2}) {
                x.tell(0, 0, 0, sorted[i][0], sorted[i][1], 0);
            }
            x.set(0);
            boolean isThere = which >= 0 && which < 4;
            due("settle " + which, x.settle(0, 0, 0, which), isThere ? 0 : NONE);
            due("in conflict", x.join(0, 0), isThere ? 0 : 1);
            due("chosen", x.last(0, 0, 0), isThere ? sorted[which][1] : NOTHING);
        }
        for (int which : new int[] {-1, 0, 59, 60, Integer.MIN_VALUE, Integer.MAX_VALUE}) {
            DeviceSets x = withDevices(1);
            for (int i = 0; i < 60; i++) {
                x.tell(0, 0, 0, 100 - i, i, 0);
            }
            x.set(0);
            boolean isThere = which >= 0 && which < 60;
            due("settle " + which + " of 60", x.settle(0, 0, 0, which), isThere ? 0 : NONE);
            due("chosen of 60", x.last(0, 0, 0), isThere ? 59 - which : NOTHING);
        }
    }

    private static void settleOfNotRetired() {
        about("13: of those not retired");
        for (int which = -1; which < 4; which++) {
            DeviceSets x = withDevices(1);
            for (int second = 10; second < 14; second++) {
                x.tell(0, 0, 0, second, second, 0);
            }
            x.set(0);
            x.retain(0, 12);
            boolean isThere = which == 0 || which == 1;
            due("settle " + which, x.settle(0, 0, 0, which), isThere ? 0 : NONE);
            due("chosen", x.last(0, 0, 0), isThere ? 12 + which : NOTHING);
        }
        DeviceSets y = withDevices(1);
        tellUnlike(y, 0, 0, 0);
        y.set(0);
        y.retain(0, 11);
        due("one is left, so there is no conflict", y.settle(0, 0, 0, 0), NONE);
    }

    private static void settleFirstKey() {
        about("13: Of the first key in conflict of a device and kind; how many keys are in conflict then");
        DeviceSets x = withDevices(2);
        tellUnlike(x, 0, 1, 0);
        tellUnlike(x, 0, 0, 1);
        tellUnlike(x, 0, 0, 0);
        tellUnlike(x, 1, 0, 0);
        x.set(0);
        x.set(1);
        due("join", x.join(0, 1), 4);
        due("number 0, kind 0", x.settle(0, 0, 0, 0), 3);
        due("kind 1 is first now", x.conflict(0, 0, 3), 1);
        due("number 1, kind 0", x.settle(0, 0, 0, 0), 2);
        due("none more of device 0, kind 0", x.settle(0, 0, 0, 0), NONE);
        due("device 1", x.settle(0, 1, 0, 0), 1);
        due("kind 1", x.settle(0, 0, 1, 0), 0);
        due("none more at all", x.settle(0, 0, 1, 0), NONE);
        due("the other set is as it was", x.join(1, 1), 1);
    }

    private static void settleOfNone() {
        about("13: NONE when there are none such");
        DeviceSets x = withDevices(2);
        x.set(0);
        due("an empty set", x.settle(0, 0, 0, 0), NONE);
        x.tell(0, 0, 1, 0, 0, 0);
        x.set(0);
        due("one telling", x.settle(1, 0, 1, 0), NONE);
        tellUnlike(x, 0, 1, 1);
        x.set(0);
        for (int kind : new int[] {-1, 0, 2, 4, Integer.MIN_VALUE, Integer.MAX_VALUE}) {
            due("kind " + kind, x.settle(2, 0, kind, 0), NONE);
        }
        due("another device", x.settle(2, 1, 1, 0), NONE);
        due("they are in conflict still", x.join(2, 2), 1);
        due("that device and kind", x.settle(2, 0, 1, 0), 0);
    }

    private static void equalParts() {
        about("14: the same tellings, corrections, choices and bound (whatever waits)");
        DeviceSets x = withDevices(1);
        withSets(x, 0, 2);
        due("two empty ones", x.equal(0, 1), true);
        x.retain(0, 1);
        due("a bound more", x.equal(0, 1), false);
        x.retain(1, 1);
        due("the same bound", x.equal(0, 1), true);
        tellUnlike(x, 0, 0, 0);
        x.set(0);
        x.batch(0);
        x.join(0, 2);
        due("what waits", x.equal(0, 1), true);
        x.endBatch(0);
        due("a telling more", x.equal(0, 1), false);
        due("the other way round", x.equal(1, 0), false);
        x.join(1, 2);
        due("the same tellings", x.equal(0, 1), true);
        x.settle(0, 0, 0, 0);
        due("a choice more", x.equal(0, 1), false);
        x.settle(1, 0, 0, 0);
        due("the same choices", x.equal(0, 1), true);
        x.correct(1, 0, 0, 0, 0, 0);
        due("a correction more", x.equal(0, 1), false);
        x.correct(0, 0, 0, 0, 0, 0);
        due("the same corrections", x.equal(0, 1), true);
        x.retain(0, 2000000);
        due("the greatest bound", x.equal(0, 1), false);
        x.retain(1, 1999999);
        due("one less", x.equal(0, 1), false);
    }

    private static void equalOfNone() {
        about("14: false when there are none such");
        DeviceSets x = withSets(withDevices(1), 0, 2);
        due("the first with the last", x.equal(0, 1), true);
        int[][] pairs = {{-1, 0}, {0, -1}, {2, 0}, {0, 2}, {2, 2}, {-1, -1}};
        for (int[] pair : pairs) {
            due("equal", x.equal(pair[0], pair[1]), false);
        }
    }

    private static void batchNumbers() {
        about("15: its number, counted over all sets from 0 on");
        DeviceSets x = withSets(withDevices(1), 0, 6);
        for (int i = 0; i < 6; i++) {
            due("batch", x.batch(5 - i), i);
        }
        for (int i = 0; i < 6; i++) {
            due("endBatch", x.endBatch(i), true);
            due("no number is used again", x.batch(5 - i), 6 + i);
        }
    }

    private static void batchOpen() {
        about("15: NONE when there is none such, or one is open for it");
        DeviceSets x = withSets(withDevices(1), 0, 2);
        due("set -1", x.batch(-1), NONE);
        due("set 2", x.batch(2), NONE);
        due("set 1", x.batch(1), 0);
        due("one is open", x.batch(1), NONE);
        due("none is open for set 0", x.batch(0), 1);
        due("endBatch", x.endBatch(0), true);
        due("none is open now", x.batch(1), 2);
        due("one is open again", x.batch(1), NONE);
    }

    private static void endBatchNumbers() {
        about("16: Ends a batch that is open; false when there is none such");
        DeviceSets x = withSets(withDevices(1), 0, 2);
        due("before any", x.endBatch(0), false);
        due("before any", x.endBatch(-1), false);
        x.batch(0);
        x.batch(1);
        for (int b : new int[] {-1, 2, Integer.MIN_VALUE, Integer.MAX_VALUE}) {
            due("batch " + b, x.endBatch(b), false);
        }
        due("the last", x.endBatch(1), true);
        due("the last again", x.endBatch(1), false);
        due("the first", x.endBatch(0), true);
        due("the first again", x.endBatch(0), false);
        due("with none open", x.endBatch(-1), false);
        due("the next number", x.batch(0), 2);
        due("not those before", x.endBatch(0), false);
        due("it is open still", x.batch(0), NONE);
    }

    private static void retainLimits() {
        about("17: before (0 .. 2000000); NONE when it is not such");
        for (long before : new long[] {0, 2000000}) {
            DeviceSets x = withDevices(1);
            x.tell(0, 0, 0, 1000000, 7, 0);
            x.set(0);
            due("before " + before, x.retain(0, before), before == 0 ? 0 : 1);
        }
        for (long before : new long[] {-1, 2000001, Long.MIN_VALUE, Long.MAX_VALUE, 1L << 32}) {
            DeviceSets x = withDevices(1);
            x.tell(0, 0, 0, 0, 7, 0);
            withSets(x, 0, 2);
            due("before " + before, x.retain(0, before), NONE);
            due("as it was", x.equal(0, 1), true);
            due("none retired", x.kept(0, 0), 0);
        }
    }

    private static void retainGreater() {
        about("17: A set's bound becomes before, if that is greater");
        for (long before : new long[] {0, 49, 50, 51}) {
            DeviceSets x = withDevices(1);
            x.tell(0, 0, 0, 48, 7, 0);
            x.tell(0, 1, 0, 49, 7, 0);
            x.tell(0, 2, 0, 50, 7, 0);
            withSets(x, 0, 2);
            due("the first", x.retain(0, 50), 2);
            x.retain(1, Math.max(50, before));
            due("then " + before, x.retain(0, before), before == 51 ? 1 : 0);
            due("the greater is the bound", x.equal(0, 1), true);
        }
    }

    private static void retainCount() {
        about("17: how many more tellings of it are retired by that");
        DeviceSets x = withDevices(2);
        for (int i = 0; i < 30; i++) {
            x.tell(0, i, 0, 10, 5, 0);
            x.tell(0, i, 0, 11, 5, 0);
        }
        withSets(x, 0, 2);
        due("none at the second", x.retain(0, 10), 0);
        due("the first half", x.retain(0, 11), 30);
        due("the second half", x.retain(0, 12), 30);
        due("none more", x.retain(0, 2000000), 0);
        due("all at once", x.retain(1, 12), 60);
        x.set(1);
        due("none in an empty set", x.retain(2, 2000000), 0);
    }

    private static void keptSums() {
        about("18: The sum of the values of all retired tellings of a kind in a set");
        for (long v : new long[] {-1000000000L, 1000000000L}) {
            DeviceSets x = withDevices(1);
            for (int i = 0; i < 60; i++) {
                x.tell(0, i, 3, i, v, 0);
            }
            x.set(0);
            due("none", x.kept(0, 3), 0);
            x.retain(0, 1);
            due("one", x.kept(0, 3), v);
            x.retain(0, 59);
            due("all but one", x.kept(0, 3), 59 * v);
            x.retain(0, 60);
            due("all", x.kept(0, 3), 60 * v);
        }
        DeviceSets y = withDevices(1);
        tellUnlike(y, 0, 0, 0);
        y.set(0);
        y.settle(0, 0, 0, 1);
        y.retain(0, 2000000);
        due("unlike ones, chosen or not", y.kept(0, 0), 10);
    }

    private static void keptOfNone() {
        about("18: 0 when there are none such");
        DeviceSets x = withDevices(1);
        x.set(0);
        due("an empty set", x.kept(0, 0), 0);
        for (int kind = 0; kind < 4; kind++) {
            x.tell(0, 0, kind, 0, 7 + kind, 0);
        }
        x.set(0);
        x.retain(1, 1);
        due("the least kind", x.kept(1, 0), 7);
        due("the greatest kind", x.kept(1, 3), 10);
        for (int kind : new int[] {-1, 4, Integer.MIN_VALUE, Integer.MAX_VALUE}) {
            due("kind " + kind, x.kept(1, kind), 0);
        }
        due("set -1", x.kept(-1, 0), 0);
        due("set 2", x.kept(2, 0), 0);
    }

    private static void markLimits() {
        about("19: at a second of its (0 .. 1000000) it was truly another one (0 .. 1000000)");
        for (long second : new long[] {0, 1000000}) {
            for (long truly : new long[] {0, 1000000}) {
                DeviceSets x = withDevices(1);
                due("mark", x.mark(0, second, truly), true);
                dueFraction(x, 0, second, truly, 1);
            }
        }
        for (long n : NO_NUMBERS) {
            DeviceSets x = withDevices(1);
            due("second " + n, x.mark(0, n, 5), false);
            due("true one " + n, x.mark(0, 5, n), false);
            dueFraction(x, 0, 5, 5, 1);
            due("the first is still free", x.mark(0, 0, 0), true);
        }
    }

    private static void markRising() {
        about("19: false when the second is not greater than that of its mark before, the true one less");
        DeviceSets x = withDevices(2);
        due("the first", x.mark(0, 100, 200), true);
        due("a second less", x.mark(0, 99, 200), false);
        due("the same second", x.mark(0, 100, 200), false);
        due("the same second, a true one more", x.mark(0, 100, 201), false);
        due("a true one less", x.mark(0, 101, 199), false);
        due("a true one less, far behind", x.mark(0, 1000000, 199), false);
        due("the refused ones are no marks before", x.mark(0, 101, 200), true);
        due("by the mark just before", x.mark(0, 101, 300), false);
        due("by the mark just before", x.mark(0, 102, 199), false);
        due("both more", x.mark(0, 102, 201), true);
        due("the other device has none before", x.mark(1, 0, 0), true);
    }

    private static void markEleventh() {
        about("19: false when it has 10");
        DeviceSets x = withDevices(2);
        for (int i = 0; i < 9; i++) {
            due("mark", x.mark(0, i, i), true);
        }
        due("the tenth", x.mark(0, 9, 20), true);
        due("the eleventh", x.mark(0, 10, 40), false);
        dueFraction(x, 0, 9, 20, 1);
        dueFraction(x, 0, 10, 21, 1);
        x.reset(0, 0);
        due("in another life too", x.mark(0, 10, 40), false);
        due("the other device", x.mark(1, 10, 40), true);
    }

    private static void correctedLimits() {
        about("20: for a second (0 .. 1000000) of a device, part 0 the numerator, 1 the denominator");
        DeviceSets x = withDevices(1);
        x.mark(0, 10, 30);
        dueFraction(x, 0, 0, 20, 1);
        dueFraction(x, 0, 1000000, 1000020, 1);
        for (long second : NO_NUMBERS) {
            dueFraction(x, 0, second, NOTHING, NOTHING);
        }
        for (int part : new int[] {-1, 2, Integer.MIN_VALUE, Integer.MAX_VALUE}) {
            due("part " + part, x.corrected(0, 10, part), NOTHING);
        }
    }

    private static void correctedWithoutMarks() {
        about("20: without marks the same");
        DeviceSets x = withDevices(2);
        x.mark(1, 5, 9);
        for (long second : new long[] {0, 1, 5, 999999, 1000000}) {
            dueFraction(x, 0, second, second, 1);
        }
    }

    private static void correctedAtMarks() {
        about("20: at marks as told, between two of them on the line from one to the other");
        DeviceSets x = withDevices(1);
        for (int i = 0; i < 10; i++) {
            x.mark(0, 10 + 4 * i, 100 + i * i);
        }
        for (int i = 0; i < 10; i++) {
            dueFraction(x, 0, 10 + 4 * i, 100 + i * i, 1);
        }
        dueFraction(x, 0, 11, 401, 4);
        dueFraction(x, 0, 13, 403, 4);
        dueFraction(x, 0, 15, 407, 4);
        dueFraction(x, 0, 43, 673, 4);
        dueFraction(x, 0, 44, 345, 2);
        dueFraction(x, 0, 45, 707, 4);
        DeviceSets y = withDevices(1);
        y.mark(0, 10, 50);
        y.mark(0, 11, 70);
        dueFraction(y, 0, 10, 50, 1);
        dueFraction(y, 0, 11, 70, 1);
    }

    private static void correctedOutside() {
        about("20: before the first and behind the last as far off as at that");
        DeviceSets x = withDevices(3);
        x.mark(0, 100, 40);
        x.mark(0, 200, 1000);
        dueFraction(x, 0, 0, -60, 1);
        dueFraction(x, 0, 60, 0, 1);
        dueFraction(x, 0, 99, 39, 1);
        dueFraction(x, 0, 101, 248, 5);
        dueFraction(x, 0, 199, 4952, 5);
        dueFraction(x, 0, 201, 1001, 1);
        dueFraction(x, 0, 1000000, 1000800, 1);
        x.mark(1, 1000000, 0);
        dueFraction(x, 1, 0, -1000000, 1);
        dueFraction(x, 1, 999999, -1, 1);
        dueFraction(x, 1, 1000000, 0, 1);
        x.mark(2, 0, 1000000);
        dueFraction(x, 2, 1000000, 2000000, 1);
        dueFraction(x, 2, 1, 1000001, 1);
    }

    private static void correctedLowestTerms() {
        about("20: as a fraction in lowest terms, the denominator above 0");
        DeviceSets x = withDevices(4);
        x.mark(0, 0, 0);
        x.mark(0, 1000000, 999999);
        dueFraction(x, 0, 1, 999999, 1000000);
        dueFraction(x, 0, 500000, 999999, 2);
        dueFraction(x, 0, 999999, 999998000001L, 1000000);
        x.mark(1, 0, 5);
        x.mark(1, 1000000, 5);
        dueFraction(x, 1, 0, 5, 1);
        dueFraction(x, 1, 1, 5, 1);
        dueFraction(x, 1, 999999, 5, 1);
        x.mark(2, 0, 0);
        x.mark(2, 1000000, 0);
        dueFraction(x, 2, 1, 0, 1);
        dueFraction(x, 2, 1000000, 0, 1);
        x.mark(3, 0, 0);
        x.mark(3, 12, 1000000);
        dueFraction(x, 3, 1, 250000, 3);
        dueFraction(x, 3, 3, 250000, 1);
        dueFraction(x, 3, 11, 2750000, 3);
    }

    private static void correctedOfNone() {
        about("20: Long.MIN_VALUE when there are none such");
        DeviceSets x = withDevices(2);
        dueFraction(x, -1, 5, NOTHING, NOTHING);
        dueFraction(x, 0, 5, 5, 1);
        dueFraction(x, 1, 5, 5, 1);
        dueFraction(x, 2, 5, NOTHING, NOTHING);
    }

    private static void playTurns() {
        about("21: So many turns (0 .. 1000); NONE when turns are not such");
        for (int turns : new int[] {-1, 1001, Integer.MIN_VALUE, Integer.MAX_VALUE}) {
            DeviceSets x = forPlay(2);
            due("turns " + turns, x.play(1, turns), NONE);
            due("nothing is joined", x.last(0, 1, 0) == NOTHING && x.last(1, 0, 0) == NOTHING, true);
        }
        for (int turns : new int[] {0, 1, 2, 999, 1000}) {
            duePlay(6, 11, turns);
        }
    }

    private static void playSets() {
        about("21: the rest by how many sets there are; NONE when there is no set");
        DeviceSets x = withDevices(1);
        due("no set, no turn", x.play(1, 0), NONE);
        due("no set", x.play(1, 1000), NONE);
        x.set(0);
        due("one set, no turn", x.play(1, 0), 0);
        due("one set", x.play(1, 1000), 0);
        for (int sets = 2; sets <= 6; sets++) {
            for (int turns = 1; turns < 12; turns++) {
                duePlay(sets, 5, turns);
            }
        }
    }

    private static void playWraps() {
        about("21: x becomes x * 6364136223846793005 + 1442695040888963407 (wrapping; the seed at first)");
        for (long seed : new long[] {0, 1, -1, Long.MAX_VALUE, Long.MIN_VALUE, 1L << 32, -2896274105465103763L}) {
            for (int turns = 1; turns < 8; turns++) {
                duePlay(6, seed, turns);
            }
        }
    }

    /** Set i has the one telling of a second i, device i % 4 told it. */
    private static DeviceSets forPlay(int sets) {
        DeviceSets x = withDevices(4);
        for (int i = 0; i < sets; i++) {
            x.tell(i % 4, i, i / 4, i, i, 0);
            x.set(i % 4);
        }
        return x;
    }

    private static int[] masksForPlay(int sets) {
        int[] masks = new int[sets];
        for (int i = 0; i < sets; i++) {
            masks[i] = i < 4 ? 1 << i : 1 << i | 1 << i - 4;
        }
        return masks;
    }

    private static void duePlay(int sets, long seed, int turns) {
        DeviceSets x = forPlay(sets);
        int[] masks = masksForPlay(sets);
        String call = "play(" + seed + ", " + turns + ") of " + sets;
        due(call, x.play(seed, turns), playMasks(masks, seed, turns));
        for (int s = 0; s < sets; s++) {
            for (int t = 0; t < sets; t++) {
                due("set " + s + " behind " + call, x.last(s, t % 4, t / 4), (masks[s] >> t & 1) == 1 ? t : NOTHING);
            }
        }
    }

    private static int playMasks(int[] masks, long seed, int turns) {
        BigInteger two64 = BigInteger.ONE.shiftLeft(64);
        BigInteger x = BigInteger.valueOf(seed).mod(two64);
        int changed = 0;
        for (int turn = 0; turn < turns; turn++) {
            x = drawn(x).mod(two64);
            int a = place(x, masks.length);
            x = drawn(x).mod(two64);
            int joined = masks[a] | masks[place(x, masks.length)];
            changed += joined == masks[a] ? 0 : 1;
            masks[a] = joined;
        }
        return changed;
    }

    private static BigInteger drawn(BigInteger x) {
        return x.multiply(new BigInteger("6364136223846793005")).add(new BigInteger("1442695040888963407"));
    }

    private static int place(BigInteger x, int count) {
        return x.shiftRight(33).mod(BigInteger.valueOf(count)).intValue();
    }

    private static void playCounts() {
        about("21: how many of these joins changed a (tellings, corrections, choices or bound)");
        DeviceSets x = withDevices(1);
        tellUnlike(x, 0, 0, 0);
        withSets(x, 0, 2);
        due("alike", x.play(1, 1000), 0);
        x.correct(0, 0, 0, 10, 0, 0);
        due("a correction", x.play(1, 1000), 1);
        x.settle(1, 0, 0, 0);
        due("a choice", x.play(1, 1000), 1);
        x.retain(0, 1);
        due("a bound", x.play(1, 1000), 1);
        due("alike", x.equal(0, 1), true);
        x.tell(0, 1, 0, 10, 0, 0);
        x.set(0);
        due("a telling for two, all else for the third", x.play(1, 1000), 3);
        due("no more", x.play(1, 1000), 0);
    }

    private static void playCountsWaiting() {
        about("21: or, while a batch is open for it, what waits for it");
        DeviceSets x = withDevices(1);
        withSets(x, 0, 2);
        x.batch(0);
        due("an empty set brings nothing", x.play(1, 1000), 0);
        x.retain(1, 1);
        due("a bound", x.play(1, 1000), 1);
        due("it is brought once", x.play(1, 1000), 0);
        x.correct(1, 0, 0, 10, 0, 0);
        due("a correction", x.play(1, 1000), 1);
        x.endBatch(0);
        due("it is in it", x.equal(0, 1), true);
        due("behind the end", x.play(1, 1000), 0);
        x.batch(0);
        due("what is in it already", x.play(1, 1000), 1);
        x.batch(1);
        due("what is in the other", x.play(1, 1000), 1);
        due("it is brought once", x.play(1, 1000), 0);
    }
}
