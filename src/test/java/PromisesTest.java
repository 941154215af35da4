/** Each promise of the document: ordinary inputs, the edges it names, and wrong inputs. */
public final class PromisesTest extends Answers {
    private static final int[] NO_SUCH = {-1, 6, 60, Integer.MIN_VALUE, Integer.MAX_VALUE};

    public static void main(String[] args) {
        newObject();
        device();
        tell();
        tellLimit();
        reset();
        life();
        set();
        join();
        correct();
        correctLimit();
        last();
        known();
        knownCorrections();
        gap();
        conflict();
        settle();
        seenOfChosen();
        equal();
        batch();
        endBatch();
        retain();
        kept();
        mark();
        corrected();
        play();
        playWithBatch();
        wrongSets();
        end("all promises hold");
    }

    private static void newObject() {
        about("1 new object");
        due("NONE", DeviceSets.NONE, -1);
        DeviceSets x = new DeviceSets();
        due("life", x.life(0), NONE);
        due("set", x.set(0), NONE);
        due("join", x.join(0, 0), NONE);
        due("batch", x.batch(0), NONE);
        due("play", x.play(1, 0), NONE);
        due("equal", x.equal(0, 0), false);
        due("corrected", x.corrected(0, 0, 0), NOTHING);
        x.device();
        x.set(0);
        due("another object has no devices", new DeviceSets().life(0), NONE);
        due("another object has no sets", new DeviceSets().batch(0), NONE);
    }

    private static void device() {
        about("2 device");
        DeviceSets x = new DeviceSets();
        for (int i = 0; i < 4; i++) {
            due("not yet there", x.life(i), NONE);
            due("device", x.device(), i);
            due("there", x.life(i), 0);
        }
        due("fifth", x.device(), NONE);
        due("fifth again", x.device(), NONE);
        due("no fifth", x.life(4), NONE);
    }

    private static void tell() {
        about("3 tell");
        DeviceSets x = withDevices(1);
        due("least", x.tell(0, 0, 0, 0, -1000000000L, 0), 1);
        due("greatest", x.tell(0, 1000000, 3, 1000000, 1000000000L, 1000000), 1);
        due("again, later", x.tell(0, 0, 0, 0, -1000000000L, 7), 0);
        due("other second", x.tell(0, 0, 0, 1, -1000000000L, 0), 1);
        due("other value", x.tell(0, 0, 0, 0, 5, 0), 1);
        due("other kind", x.tell(0, 0, 1, 0, 5, 0), 1);
        due("other number", x.tell(0, 1, 0, 0, 5, 0), 1);
        for (int d : new int[] {-1, 1, 4, Integer.MIN_VALUE, Integer.MAX_VALUE}) {
            due("device " + d, x.tell(d, 1, 1, 1, 1, 1), NONE);
        }
        for (long n : NO_NUMBERS) {
            due("number " + n, x.tell(0, n, 1, 1, 1, 1), NONE);
            due("second " + n, x.tell(0, 1, 1, n, 1, 1), NONE);
            due("on " + n, x.tell(0, 1, 1, 1, 1, n), NONE);
            due("the same with on " + n, x.tell(0, 0, 0, 0, 5, n), NONE);
        }
        for (long v : NO_VALUES) {
            due("value " + v, x.tell(0, 1, 1, 1, v, 1), NONE);
        }
        for (int kind : new int[] {-1, 4, Integer.MIN_VALUE, Integer.MAX_VALUE}) {
            due("kind " + kind, x.tell(0, 1, kind, 1, 1, 1), NONE);
        }
        DeviceSets y = withDevices(1);
        y.tell(0, 1, 0, 5, 5, 3);
        y.tell(0, 1, 0, 5, 5, 1);
        y.set(0);
        due("the first on stays", y.known(0, 0, 0, 5, 2), NOTHING);
        due("the first on stays", y.known(0, 0, 0, 5, 3), 5);
        y.reset(0, 1);
        due("number below the life's first", y.tell(0, 0, 0, 5, 5, 3), NONE);
        due("the same in another life", y.tell(0, 1, 0, 5, 5, 3), 1);
    }

    private static void tellLimit() {
        about("3 tell, limit");
        DeviceSets x = withDevices(2);
        for (int i = 0; i < 60; i++) {
            due("telling " + i, x.tell(i % 2, i, 0, i, i, 0), 1);
            due("again " + i, x.tell(i % 2, i, 0, i, i, 0), 0);
        }
        due("61st", x.tell(0, 60, 0, 1, 1, 1), NONE);
        due("61st, unlike one", x.tell(0, 0, 0, 1, 1, 1), NONE);
        due("told before, with 60", x.tell(1, 59, 0, 59, 59, 4), 0);
        due("told before by the other device", x.tell(0, 59, 0, 59, 59, 4), NONE);
        x.set(0);
        due("all of them", x.retain(0, 2000000), 30);
    }

    private static void reset() {
        about("4 reset");
        DeviceSets x = withDevices(2);
        due("no device", x.reset(2, 0), false);
        due("no device", x.reset(-1, 0), false);
        for (long n : NO_NUMBERS) {
            due("number " + n, x.reset(0, n), false);
        }
        due("refused ones change nothing", x.life(0), 0);
        due("greatest number", x.reset(0, 1000000), true);
        due("below it", x.tell(0, 999999, 0, 0, 0, 0), NONE);
        due("at it", x.tell(0, 1000000, 0, 0, 0, 0), 1);
        due("the other device goes on", x.tell(1, 0, 0, 0, 0, 0), 1);
        for (int life = 2; life < 100; life++) {
            due("to life " + life, x.reset(0, 0), true);
            due("life", x.life(0), life);
        }
        due("in its 100th", x.reset(0, 3), false);
        due("life", x.life(0), 99);
        due("its numbers stay", x.tell(0, 0, 0, 0, 0, 0), 1);
        due("the other device", x.reset(1, 0), true);
    }

    private static void life() {
        about("5 life");
        DeviceSets x = withDevices(2);
        due("at first", x.life(1), 0);
        x.reset(1, 9);
        due("after a reset", x.life(1), 1);
        due("of the other", x.life(0), 0);
        for (int d : new int[] {-1, 2, 4, Integer.MIN_VALUE, Integer.MAX_VALUE}) {
            due("device " + d, x.life(d), NONE);
        }
    }

    private static void set() {
        about("6 set");
        DeviceSets x = withDevices(2);
        due("no device", x.set(2), NONE);
        due("no device", x.set(-1), NONE);
        x.tell(0, 0, 0, 1, 10, 0);
        x.reset(0, 0);
        x.tell(0, 0, 0, 2, 20, 0);
        x.tell(1, 0, 0, 3, 30, 0);
        due("first", x.set(0), 0);
        x.tell(0, 1, 0, 4, 40, 0);
        due("a telling behind it is not in it", x.last(0, 0, 0), 20);
        due("no other device's", x.last(0, 1, 0), NOTHING);
        due("tellings of all lives", x.retain(0, 2000000), 2);
        due("second", x.set(0), 1);
        due("all so far", x.last(1, 0, 0), 40);
        due("its bound is its own", x.retain(1, 2000000), 3);
        for (int s = 2; s < 6; s++) {
            due("set", x.set(1), s);
        }
        due("seventh", x.set(1), NONE);
        due("seventh", x.batch(6), NONE);
    }

    private static void join() {
        about("7 join");
        DeviceSets x = withDevices(2);
        x.tell(0, 0, 0, 1, 10, 0);
        x.tell(0, 1, 1, 1, 11, 0);
        x.set(0);
        x.tell(0, 0, 0, 2, 20, 0);
        x.tell(0, 1, 1, 2, 21, 0);
        x.tell(1, 0, 0, 5, 50, 0);
        x.set(1);
        x.correct(1, 1, 0, 5, 55, 0);
        x.retain(1, 1);
        due("no conflict", x.join(0, 1), 0);
        due("its telling", x.last(0, 1, 0), 50);
        due("its correction", x.known(0, 1, 0, 5, 0), 55);
        due("the other is as before", x.last(1, 0, 0), NOTHING);
        due("its bound", x.equal(0, 1), false);
        x.set(0);
        due("two conflicts", x.join(0, 2), 2);
        due("with itself", x.join(0, 0), 2);
        due("settled", x.settle(2, 0, 0, 0), 1);
        due("its choice", x.join(0, 2), 1);
        due("the lesser bound is not taken", x.retain(2, 0), 0);
        x.join(1, 0);
        due("the greater bound", x.equal(0, 1), true);
        x.retain(1, 2);
        due("with retired ones there are none", x.join(0, 1), 0);
        due("retired there too", x.kept(0, 0), 10);
        due("and no more by that bound", x.retain(0, 2), 0);
    }

    private static void correct() {
        about("8 correct");
        DeviceSets x = withDevices(1);
        x.tell(0, 0, 0, 5, 5, 0);
        x.set(0);
        x.set(0);
        due("correction", x.correct(0, 0, 0, 5, 50, 1), true);
        due("it is there", x.known(0, 0, 0, 5, 1), 50);
        due("it is not in the other", x.known(1, 0, 0, 5, 1), 5);
        due("again", x.correct(0, 0, 0, 5, 50, 1), true);
        due("the edges", x.correct(0, 0, 3, 1000000, -1000000000L, 1000000), true);
        due("the edges", x.correct(0, 0, 0, 0, 1000000000L, 0), true);
        for (int s : new int[] {-1, 2, 6, Integer.MAX_VALUE}) {
            due("set " + s, x.correct(s, 0, 0, 5, 50, 1), false);
        }
        for (int d : new int[] {-1, 1, 4, Integer.MAX_VALUE}) {
            due("device " + d, x.correct(0, d, 0, 5, 50, 1), false);
        }
        for (int kind : new int[] {-1, 4, Integer.MIN_VALUE, Integer.MAX_VALUE}) {
            due("kind " + kind, x.correct(0, 0, kind, 5, 50, 1), false);
        }
        for (long n : NO_NUMBERS) {
            due("second " + n, x.correct(0, 0, 0, n, 50, 1), false);
            due("told " + n, x.correct(0, 0, 0, 5, 50, n), false);
        }
        for (long v : NO_VALUES) {
            due("value " + v, x.correct(0, 0, 0, 5, v, 1), false);
        }
        due("batch", x.batch(1), 0);
        due("with a batch open", x.correct(1, 0, 0, 5, 51, 1), true);
        due("it is there at once", x.known(1, 0, 0, 5, 1), 51);
    }

    private static void correctLimit() {
        about("8 correct, limit");
        DeviceSets x = withDevices(1);
        x.tell(0, 0, 0, 5, 5, 0);
        x.set(0);
        x.set(0);
        for (int i = 0; i < 20; i++) {
            due("correction " + i, x.correct(0, 0, 0, 5, i, i), true);
            due("the same in another set", x.correct(1, 0, 0, 5, i, i), true);
        }
        due("21st", x.correct(0, 0, 0, 5, 20, 20), false);
        due("21st, other told", x.correct(0, 0, 0, 5, 19, 18), false);
        due("there already", x.correct(0, 0, 0, 5, 19, 19), true);
        x.set(0);
        due("there already, in another set", x.correct(2, 0, 0, 5, 7, 7), true);
        due("it is there", x.known(2, 0, 0, 5, 19), 7);
        due("the last of 20", x.known(0, 0, 0, 5, 1000000), 19);
    }

    private static void last() {
        about("9 last");
        DeviceSets x = withDevices(2);
        x.tell(0, 9, 0, 1, 90, 0);
        x.tell(0, 8, 0, 99, 80, 50);
        x.tell(0, 10, 1, 1, 100, 0);
        x.set(0);
        due("the greatest number", x.last(0, 0, 0), 90);
        due("of a kind", x.last(0, 0, 1), 100);
        due("none of a kind", x.last(0, 0, 2), NOTHING);
        due("none of a device", x.last(0, 1, 0), NOTHING);
        due("no kind", x.last(0, 0, 4), NOTHING);
        due("no kind", x.last(0, 0, -1), NOTHING);
        due("no device", x.last(0, 4, 0), NOTHING);
        due("no device", x.last(0, -1, 0), NOTHING);
        x.correct(0, 0, 0, 1, 91, 0);
        due("no correction", x.last(0, 0, 0), 90);
        x.tell(0, 10, 0, 5, 101, 0);
        x.tell(0, 10, 0, 6, 102, 0);
        x.set(0);
        due("none in conflict", x.last(1, 0, 0), 90);
        x.settle(1, 0, 0, 0);
        due("settled", x.last(1, 0, 0), 101);
        x.retain(1, 6);
        due("the one that is not retired", x.last(1, 0, 0), 102);
        x.retain(1, 7);
        due("retired", x.last(1, 0, 0), 80);
        x.reset(0, 0);
        x.tell(0, 0, 0, 0, -3, 0);
        x.set(0);
        due("the greatest life", x.last(2, 0, 0), -3);
    }

    private static void known() {
        about("10 known");
        DeviceSets x = withDevices(2);
        x.tell(0, 5, 0, 10, 1, 4);
        x.tell(0, 4, 0, 20, 2, 6);
        x.tell(0, 3, 0, 20, 3, 5);
        x.tell(0, 9, 1, 20, 4, 0);
        x.tell(1, 9, 0, 20, 5, 0);
        x.set(0);
        due("before any", x.known(0, 0, 0, 9, 99), NOTHING);
        due("at its second", x.known(0, 0, 0, 10, 99), 1);
        due("before the next", x.known(0, 0, 0, 19, 99), 1);
        due("the greatest number of a second", x.known(0, 0, 0, 20, 99), 2);
        due("told no later", x.known(0, 0, 0, 20, 5), 3);
        due("told no later", x.known(0, 0, 0, 20, 4), 1);
        due("nothing told yet", x.known(0, 0, 0, 20, 3), NOTHING);
        due("any numbers", x.known(0, 0, 0, Long.MAX_VALUE, Long.MAX_VALUE), 2);
        due("any numbers", x.known(0, 0, 0, Long.MIN_VALUE, Long.MAX_VALUE), NOTHING);
        due("any numbers", x.known(0, 0, 0, Long.MAX_VALUE, -1), NOTHING);
        due("of a kind", x.known(0, 0, 1, 20, 0), 4);
        due("no kind", x.known(0, 0, 4, 20, 99), NOTHING);
        due("no device's", x.known(0, 1, 0, 20, 99), NOTHING);
        due("no device", x.known(0, -1, 0, 20, 99), NOTHING);
        x.reset(0, 0);
        x.tell(0, 0, 0, 20, 6, 0);
        x.tell(0, 1, 0, 15, 7, 0);
        x.set(0);
        due("the greatest life of a second", x.known(1, 0, 0, 20, 99), 6);
        due("seconds before lives", x.known(1, 0, 0, 19, 99), 7);
        x.retain(1, 20);
        due("retired", x.known(1, 0, 0, 19, 99), NOTHING);
        x.tell(0, 0, 0, 21, 8, 9);
        x.set(0);
        due("in conflict, also before it was told", x.known(2, 0, 0, 30, 8), 2);
    }

    private static void knownCorrections() {
        about("10 known, corrections");
        DeviceSets x = withDevices(2);
        x.tell(0, 0, 0, 10, 1, 2);
        x.set(0);
        x.correct(0, 0, 0, 10, 30, 4);
        x.correct(0, 0, 0, 10, 20, 5);
        x.correct(0, 0, 0, 10, 25, 5);
        x.correct(0, 0, 0, 10, 22, 5);
        x.correct(0, 0, 0, 10, 99, 0);
        x.correct(0, 0, 0, 11, 77, 6);
        x.correct(0, 0, 1, 10, 78, 6);
        x.correct(0, 1, 0, 10, 79, 6);
        due("not without a telling", x.known(0, 0, 0, 10, 1), NOTHING);
        due("told before the telling", x.known(0, 0, 0, 10, 2), 99);
        due("told later, with a lesser value", x.known(0, 0, 0, 10, 4), 30);
        due("of these the greatest value", x.known(0, 0, 0, 10, 5), 25);
        due("by the telling's second", x.known(0, 0, 0, 11, 9), 25);
        due("no telling of the kind", x.known(0, 0, 1, 10, 9), NOTHING);
        x.retain(0, 11);
        due("no retired one", x.known(0, 0, 0, 11, 9), NOTHING);
    }

    private static void gap() {
        about("11 gap");
        DeviceSets x = withDevices(2);
        x.set(1);
        due("no tellings", x.gap(0, 0, 0), NONE);
        x.tell(0, 3, 0, 1, 1, 1);
        x.tell(0, 7, 1, 2, 1, 1);
        x.tell(0, 5, 2, 3, 1, 1);
        x.tell(0, 5, 3, 4, 1, 1);
        x.tell(1, 4, 0, 3, 1, 1);
        x.set(0);
        due("first", x.gap(1, 0, 0), 4);
        due("second", x.gap(1, 0, 1), 6);
        due("third", x.gap(1, 0, 2), NONE);
        due("below the first", x.gap(1, 0, -1), NONE);
        due("far off", x.gap(1, 0, Integer.MAX_VALUE), NONE);
        due("far off", x.gap(1, 0, Integer.MIN_VALUE), NONE);
        due("other device", x.gap(1, 1, 0), NONE);
        due("no device", x.gap(1, 4, 0), NONE);
        due("no device", x.gap(1, -1, 0), NONE);
        x.retain(1, 2000000);
        due("retired ones too", x.gap(1, 0, 1), 6);
        x.tell(0, 4, 0, 1, 1, 1);
        due("a telling that is not in the set", x.gap(1, 0, 0), 4);
        x.reset(0, 0);
        x.set(0);
        due("a life without tellings", x.gap(2, 0, 0), 6);
        x.tell(0, 0, 0, 1, 1, 1);
        x.set(0);
        due("one telling of the life", x.gap(3, 0, 0), NONE);
        x.tell(0, 1000000, 0, 1, 1, 1);
        x.set(0);
        due("a million: first", x.gap(4, 0, 0), 1);
        due("a million: last", x.gap(4, 0, 999998), 999999);
        due("a million: none more", x.gap(4, 0, 999999), NONE);
    }

    private static void conflict() {
        about("12 conflict");
        DeviceSets x = withDevices(2);
        int[][] keys = {{1, 0, 2, 1}, {0, 1, 1, 0}, {0, 0, 9, 3}, {0, 0, 9, 2}, {0, 0, 3, 3}};
        tellUnlike(x, 1, 2, 1);
        tellUnlike(x, 0, 9, 3);
        tellUnlike(x, 0, 9, 2);
        tellUnlike(x, 0, 3, 3);
        x.tell(0, 1, 1, 1, 1, 1);
        x.reset(0, 0);
        tellUnlike(x, 0, 1, 0);
        x.tell(0, 9, 3, 2, 2, 2);
        x.set(0);
        x.set(1);
        x.join(0, 1);
        for (int k = 0; k < 5; k++) {
            for (int what = 0; what < 4; what++) {
                due("conflict " + k + ", " + what, x.conflict(0, k, what), keys[4 - k][what]);
            }
            due("what 4", x.conflict(0, k, 4), NONE);
            due("what -1", x.conflict(0, k, -1), NONE);
        }
        due("none more", x.conflict(0, 5, 0), NONE);
        for (int k : NO_SUCH) {
            due("k " + k, x.conflict(0, k, 0), NONE);
        }
        due("in the other set", x.conflict(1, 0, 0), 1);
        due("one there", x.conflict(1, 1, 0), NONE);
        x.retain(1, 11);
        due("one is retired", x.conflict(1, 0, 0), NONE);
        x.settle(0, 0, 3, 0);
        due("settled", x.conflict(0, 0, 3), 2);
    }

    private static void settle() {
        about("13 settle");
        DeviceSets x = withDevices(2);
        x.tell(0, 7, 0, 30, -1, 0);
        x.tell(0, 7, 0, 20, 6, 0);
        x.tell(0, 7, 0, 20, 5, 0);
        x.tell(0, 7, 0, 10, 9, 0);
        tellUnlike(x, 0, 8, 0);
        tellUnlike(x, 0, 1, 1);
        for (int s = 0; s < 5; s++) {
            x.set(0);
        }
        long[] byPlace = {9, 5, 6, -1};
        for (int which = 0; which < 4; which++) {
            due("which " + which, x.settle(which, 0, 0, which), 2);
            due("number 8 is next", x.conflict(which, 1, 2), 8);
            due("chosen", x.last(which, 0, 0), byPlace[which]);
            due("number 8", x.settle(which, 0, 0, 1), 1);
            due("none of that kind more", x.settle(which, 0, 0, 0), NONE);
            due("other kind", x.settle(which, 0, 1, 0), 0);
        }
        due("which 4", x.settle(4, 0, 0, 4), NONE);
        for (int which : NO_SUCH) {
            due("which " + which, x.settle(4, 0, 0, which), NONE);
        }
        due("no such kind", x.settle(4, 0, 2, 0), NONE);
        due("no such kind", x.settle(4, 0, 4, 0), NONE);
        due("no such device", x.settle(4, 1, 0, 0), NONE);
        due("no such device", x.settle(4, -1, 0, 0), NONE);
        x.retain(4, 20);
        due("of those not retired", x.settle(4, 0, 0, 3), NONE);
        due("of those not retired", x.settle(4, 0, 0, 0), 0);
        due("the least of them is chosen", x.known(4, 0, 0, 20, 0), 5);
        x.retain(4, 30);
        due("the chosen one is retired, one is left", x.last(4, 0, 0), -1);
    }

    private static void seenOfChosen() {
        about("13 settle, the one that holds");
        DeviceSets x = withDevices(1);
        x.tell(0, 0, 0, 30, 1, 0);
        x.tell(0, 0, 0, 20, 8, 0);
        x.tell(0, 0, 0, 20, 7, 0);
        x.tell(0, 0, 0, 40, 3, 0);
        x.tell(0, 0, 0, 50, 4, 0);
        for (int s = 0; s < 4; s++) {
            x.set(0);
        }
        x.settle(0, 0, 0, 2);
        x.settle(1, 0, 0, 1);
        x.settle(2, 0, 0, 0);
        due("chosen", x.last(0, 0, 0), 1);
        x.join(0, 1);
        due("the least second", x.last(0, 0, 0), 8);
        x.join(0, 2);
        due("the least value", x.last(0, 0, 0), 7);
        x.join(0, 3);
        due("a set without choices takes none away", x.last(0, 0, 0), 7);
        x.retain(0, 30);
        due("the chosen one that is not retired", x.last(0, 0, 0), 1);
        x.retain(0, 31);
        due("no chosen one left: in conflict again", x.conflict(0, 0, 2), 0);
        due("so none is seen", x.last(0, 0, 0), NOTHING);
        due("it can be settled again", x.settle(0, 0, 0, 1), 0);
        due("chosen", x.last(0, 0, 0), 4);
    }

    private static void equal() {
        about("14 equal");
        DeviceSets x = withDevices(2);
        tellUnlike(x, 0, 0, 0);
        x.set(0);
        x.set(0);
        due("alike", x.equal(0, 1), true);
        due("with itself", x.equal(0, 0), true);
        x.settle(0, 0, 0, 0);
        due("choices", x.equal(0, 1), false);
        x.settle(1, 0, 0, 1);
        due("unlike choices", x.equal(0, 1), false);
        x.join(1, 0);
        x.join(0, 1);
        due("joined", x.equal(0, 1), true);
        x.correct(0, 0, 0, 0, 0, 0);
        due("corrections", x.equal(0, 1), false);
        due("corrections", x.equal(1, 0), false);
        x.correct(1, 0, 0, 0, 0, 0);
        due("the same correction", x.equal(0, 1), true);
        x.retain(0, 1);
        due("bound, though none is retired", x.equal(0, 1), false);
        x.retain(1, 1);
        due("the same bound", x.equal(0, 1), true);
        x.tell(0, 1, 0, 0, 0, 0);
        x.set(0);
        x.batch(0);
        x.join(0, 2);
        due("whatever waits", x.equal(0, 1), true);
        x.endBatch(0);
        due("tellings", x.equal(0, 1), false);
        due("tellings", x.equal(1, 0), false);
        for (int s : NO_SUCH) {
            due("set " + s, x.equal(s, 0), false);
            due("set " + s, x.equal(0, s), false);
            due("set " + s, x.equal(s, s), false);
        }
        due("set 3", x.equal(3, 3), false);
    }

    private static void batch() {
        about("15 batch");
        DeviceSets x = withDevices(1);
        x.set(0);
        x.set(0);
        due("no set", x.batch(2), NONE);
        due("no set", x.batch(-1), NONE);
        due("first", x.batch(1), 0);
        due("open", x.batch(1), NONE);
        due("of another set", x.batch(0), 1);
        due("end", x.endBatch(0), true);
        due("numbers go on", x.batch(1), 2);
        due("end", x.endBatch(1), true);
        due("numbers go on", x.batch(0), 3);
    }

    private static void endBatch() {
        about("16 endBatch");
        DeviceSets x = withDevices(1);
        x.set(0);
        tellUnlike(x, 0, 0, 0);
        x.set(0);
        x.settle(1, 0, 0, 1);
        x.correct(1, 0, 0, 20, 55, 0);
        x.retain(1, 3);
        due("none open", x.endBatch(0), false);
        due("none open", x.endBatch(-1), false);
        x.batch(0);
        due("nothing comes in", x.join(0, 1), 0);
        due("nothing is in it", x.last(0, 0, 0), NOTHING);
        x.set(0);
        due("what waits is not brought to another", x.join(2, 0), 1);
        due("the bound waits too", x.equal(0, 2), false);
        x.retain(1, 15);
        x.settle(2, 0, 0, 0);
        for (int b : new int[] {-1, 1, 6, Integer.MIN_VALUE, Integer.MAX_VALUE}) {
            due("batch " + b, x.endBatch(b), false);
        }
        due("end", x.endBatch(0), true);
        due("end again", x.endBatch(0), false);
        due("telling, and correction", x.known(0, 0, 0, 20, 0), 55);
        due("choice", x.last(0, 0, 0), 5);
        due("bound as it was at the join", x.retain(0, 15), 1);
        due("now alike", x.equal(0, 1), true);
        x.tell(0, 1, 0, 30, 6, 0);
        x.set(0);
        due("joins come in again", x.join(0, 3), 0);
        due("at once", x.last(0, 0, 0), 6);
        x.set(0);
        x.batch(4);
        x.endBatch(1);
        due("nothing waits of the batch before", x.last(4, 0, 0), 6);
        x.batch(2);
        due("settle, correct and retain do not wait", x.retain(2, 2000000), 2);
        due("nothing waits when it begins", x.endBatch(2), true);
        due("so nothing came", x.last(2, 0, 0), NOTHING);
    }

    private static void retain() {
        about("17 retain");
        DeviceSets x = withDevices(1);
        x.tell(0, 0, 0, 10, 1, 0);
        x.tell(0, 0, 0, 10, 2, 0);
        x.tell(0, 1, 1, 20, 4, 0);
        x.tell(0, 2, 1, 1000000, 8, 0);
        x.set(0);
        x.set(0);
        for (long before : new long[] {-1, 2000001, Long.MIN_VALUE, Long.MAX_VALUE, 1L << 32}) {
            due("before " + before, x.retain(0, before), NONE);
        }
        due("refused ones change nothing", x.equal(0, 1), true);
        due("zero", x.retain(0, 0), 0);
        due("at its second", x.retain(0, 10), 0);
        due("behind it", x.retain(0, 11), 2);
        due("the same", x.retain(0, 11), 0);
        due("less", x.retain(0, 5), 0);
        due("that changed nothing", x.kept(0, 0), 3);
        due("more", x.retain(0, 1000000), 1);
        due("most", x.retain(0, 2000000), 1);
        due("the other set", x.retain(1, 2000000), 4);
    }

    private static void kept() {
        about("18 kept");
        DeviceSets x = withDevices(2);
        x.tell(0, 0, 0, 10, 1000000000L, 0);
        x.tell(0, 0, 0, 11, 1000000000L, 0);
        x.tell(0, 1, 0, 12, 1000000000L, 0);
        x.tell(0, 1, 1, 12, -7, 0);
        x.reset(0, 0);
        x.tell(0, 0, 0, 13, -5, 0);
        x.tell(1, 0, 0, 14, 3, 0);
        x.set(0);
        x.set(1);
        due("none retired", x.kept(0, 0), 0);
        x.retain(0, 13);
        due("unlike ones too, beyond an int", x.kept(0, 0), 3000000000L);
        due("of a kind", x.kept(0, 1), -7);
        due("none of a kind", x.kept(0, 2), 0);
        due("no kind", x.kept(0, 4), 0);
        due("no kind", x.kept(0, -1), 0);
        x.retain(0, 15);
        due("of all lives", x.kept(0, 0), 2999999995L);
        x.join(0, 1);
        due("of all devices, retired by the join", x.kept(0, 0), 2999999998L);
        due("the other set", x.kept(1, 0), 0);
    }

    private static void mark() {
        about("19 mark");
        DeviceSets x = withDevices(2);
        for (int d : new int[] {-1, 2, 4, Integer.MAX_VALUE}) {
            due("device " + d, x.mark(d, 1, 1), false);
        }
        for (long n : NO_NUMBERS) {
            due("second " + n, x.mark(0, n, 5), false);
            due("true one " + n, x.mark(0, 5, n), false);
        }
        due("refused ones change nothing", x.corrected(0, 5, 0), 5);
        due("least", x.mark(0, 0, 10), true);
        due("the same second", x.mark(0, 0, 20), false);
        due("true one less", x.mark(0, 1, 9), false);
        due("true one the same", x.mark(0, 1, 10), true);
        due("second less", x.mark(0, 0, 30), false);
        for (int i = 2; i < 9; i++) {
            due("mark", x.mark(0, i, 10 + i), true);
        }
        due("tenth, greatest", x.mark(0, 1000000, 1000000), true);
        due("the tenth is there", x.corrected(0, 1000000, 0), 1000000);
        due("the other device", x.mark(1, 1000000, 0), true);
        DeviceSets y = withDevices(1);
        for (int i = 0; i < 10; i++) {
            due("mark", y.mark(0, i, i + 5), true);
        }
        due("eleventh", y.mark(0, 10, 99), false);
        due("it is not there", y.corrected(0, 10, 0), 15);
        y.reset(0, 0);
        due("lives have one clock", y.corrected(0, 0, 0), 5);
    }

    private static void corrected() {
        about("20 corrected");
        DeviceSets x = withDevices(3);
        for (long s : new long[] {0, 7, 1000000}) {
            dueFraction(x, 0, s, s, 1);
        }
        x.mark(0, 100, 200);
        dueFraction(x, 0, 0, 100, 1);
        dueFraction(x, 0, 100, 200, 1);
        dueFraction(x, 0, 1000000, 1000100, 1);
        x.mark(0, 112, 209);
        dueFraction(x, 0, 99, 199, 1);
        dueFraction(x, 0, 100, 200, 1);
        dueFraction(x, 0, 101, 803, 4);
        dueFraction(x, 0, 102, 403, 2);
        dueFraction(x, 0, 104, 203, 1);
        dueFraction(x, 0, 112, 209, 1);
        dueFraction(x, 0, 113, 210, 1);
        x.mark(0, 115, 209);
        dueFraction(x, 0, 114, 209, 1);
        dueFraction(x, 0, 111, 833, 4);
        dueFraction(x, 0, 116, 210, 1);
        x.mark(1, 3, 0);
        x.mark(1, 9, 0);
        x.mark(1, 999999, 1000000);
        dueFraction(x, 1, 0, -3, 1);
        dueFraction(x, 1, 5, 0, 1);
        dueFraction(x, 1, 9, 0, 1);
        dueFraction(x, 1, 10, 100000, 99999);
        dueFraction(x, 1, 999998, 99998900000L, 99999);
        dueFraction(x, 1, 1000000, 1000001, 1);
        x.mark(2, 0, 1);
        x.mark(2, 1000000, 1000000);
        dueFraction(x, 2, 999999, 999999000001L, 1000000);
        for (int part : new int[] {-1, 2, Integer.MIN_VALUE, Integer.MAX_VALUE}) {
            due("part " + part, x.corrected(0, 5, part), NOTHING);
        }
        for (long n : NO_NUMBERS) {
            due("second " + n, x.corrected(0, n, 0), NOTHING);
            due("second " + n, x.corrected(0, n, 1), NOTHING);
        }
        for (int d : new int[] {-1, 3, 4, Integer.MAX_VALUE}) {
            due("device " + d, x.corrected(d, 5, 0), NOTHING);
        }
    }

    private static void play() {
        about("21 play");
        DeviceSets x = withDevices(4);
        for (int d = 0; d < 4; d++) {
            x.tell(d, d, 0, d, d, 0);
        }
        due("no set", x.play(1, 1), NONE);
        x.set(0);
        due("one set", x.play(1, 1000), 0);
        x.set(1);
        x.set(2);
        x.set(3);
        for (int turns : new int[] {-1, 1001, Integer.MIN_VALUE, Integer.MAX_VALUE}) {
            due("turns " + turns, x.play(1, turns), NONE);
        }
        due("no turns", x.play(1, 0), 0);
        due("nothing changed", x.last(0, 1, 0), NOTHING);
        int[] masks = {1, 2, 4, 8};
        for (long seed : new long[] {12345, Long.MIN_VALUE, -1, 0}) {
            due("seed " + seed, x.play(seed, 3), playMasks(masks, seed, 3));
            for (int s = 0; s < 4; s++) {
                for (int d = 0; d < 4; d++) {
                    due("set " + s + " has " + d, x.last(s, d, 0), (masks[s] >> d & 1) == 1 ? d : NOTHING);
                }
            }
        }
        due("to the end", x.play(7, 1000), playMasks(masks, 7, 1000));
        due("all alike", x.equal(0, 1) && x.equal(1, 2) && x.equal(2, 3), true);
        due("nothing more", x.play(8, 1000), 0);
        x.retain(0, 1);
        due("bounds are brought", x.play(9, 1000), 3);
        x.correct(1, 0, 0, 0, 0, 0);
        due("corrections are brought", x.play(10, 1000), 3);
    }

    private static int playMasks(int[] masks, long seed, int turns) {
        int changed = 0;
        long x = seed;
        for (int i = 0; i < turns; i++) {
            x = x * 6364136223846793005L + 1442695040888963407L;
            int a = (int) ((x >>> 33) % masks.length);
            x = x * 6364136223846793005L + 1442695040888963407L;
            int b = (int) ((x >>> 33) % masks.length);
            changed += (masks[a] | masks[b]) != masks[a] ? 1 : 0;
            masks[a] |= masks[b];
        }
        return changed;
    }

    private static void playWithBatch() {
        about("21 play, with a batch");
        DeviceSets x = withDevices(1);
        tellUnlike(x, 0, 0, 0);
        x.set(0);
        x.set(0);
        due("alike", x.play(3, 1000), 0);
        x.batch(0);
        due("what is there already waits too", x.play(3, 1000), 1);
        due("and is brought once", x.play(4, 1000), 0);
        x.settle(1, 0, 0, 1);
        due("choices are brought", x.play(5, 1000), 1);
        due("but wait", x.last(0, 0, 0), NOTHING);
        x.endBatch(0);
        due("until the end", x.last(0, 0, 0), 5);
        due("alike", x.equal(0, 1), true);
        DeviceSets y = withDevices(1);
        y.set(0);
        y.set(0);
        y.batch(0);
        due("an empty set brings nothing that waits", y.play(3, 1000), 0);
        y.retain(0, 4);
        due("the bound goes to the set without a batch", y.play(3, 1000), 2);
    }

    private static void wrongSets() {
        about("a set that is not there");
        DeviceSets x = withDevices(1);
        tellUnlike(x, 0, 0, 0);
        x.tell(0, 5, 0, 0, 0, 0);
        x.set(0);
        x.retain(0, 1);
        for (int s : new int[] {-1, 1, 5, 6, Integer.MIN_VALUE, Integer.MAX_VALUE}) {
            due("join " + s, x.join(s, 0), NONE);
            due("join with " + s, x.join(0, s), NONE);
            due("last " + s, x.last(s, 0, 0), NOTHING);
            due("known " + s, x.known(s, 0, 0, 99, 99), NOTHING);
            due("gap " + s, x.gap(s, 0, 0), NONE);
            due("conflict " + s, x.conflict(s, 0, 0), NONE);
            due("settle " + s, x.settle(s, 0, 0, 0), NONE);
            due("batch " + s, x.batch(s), NONE);
            due("retain " + s, x.retain(s, 5), NONE);
            due("kept " + s, x.kept(s, 0), 0);
        }
    }
}
