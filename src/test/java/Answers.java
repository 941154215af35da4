import java.util.List;

/** Prints and counts the answers that are not the ones that are due. The tests are made from it. */
abstract class Answers {
    static final int NONE = DeviceSets.NONE;
    static final long NOTHING = Long.MIN_VALUE;
    static final long[] NO_NUMBERS = {-1, 1000001, Long.MIN_VALUE, Long.MAX_VALUE, 1L << 32};
    static final long[] NO_VALUES = {-1000000001L, 1000000001L, Long.MIN_VALUE, Long.MAX_VALUE, 1L << 32};

    private static int wrong = 0;
    private static String about = "";

    /** What of the document the answers behind this are about. */
    static void about(String what) {
        about = what;
    }

    static void due(String call, long got, long want) {
        if (got != want) {
            wrong++;
            System.out.println(about + ": " + call + " answered " + got + ", due is " + want);
        }
    }

    static void due(String call, boolean got, boolean want) {
        due(call, got ? 1 : 0, want ? 1 : 0);
    }

    static void end(String whenAllAreRight) {
        System.out.println(wrong == 0 ? whenAllAreRight : wrong + " answers are wrong");
        if (wrong != 0) {
            System.exit(1);
        }
    }

    static DeviceSets withDevices(int count) {
        DeviceSets x = new DeviceSets();
        for (int i = 0; i < count; i++) {
            x.device();
        }
        return x;
    }

    static DeviceSets made(List<Call> calls) {
        DeviceSets x = new DeviceSets();
        for (Call call : calls) {
            call.on().applyAsLong(x);
        }
        return x;
    }

    /** A key in conflict, its tellings at the seconds 10 and 20. */
    static void tellUnlike(DeviceSets x, int device, int number, int kind) {
        x.tell(device, number, kind, 10, 5, 0);
        x.tell(device, number, kind, 20, 5, 0);
    }

    static void dueFraction(DeviceSets x, int device, long second, long over, long under) {
        due("numerator for " + second, x.corrected(device, second, 0), over);
        due("denominator for " + second, x.corrected(device, second, 1), under);
    }
}
