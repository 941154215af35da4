import java.math.BigInteger;
import java.util.ArrayList;
import java.util.Comparator;
import java.util.HashMap;
import java.util.HashSet;
import java.util.LinkedHashSet;
import java.util.List;
import java.util.Map;
import java.util.Objects;
import java.util.Optional;
import java.util.Random;
import java.util.Set;
import java.util.TreeMap;
import java.util.TreeSet;
import java.util.stream.Collectors;
import java.util.stream.Stream;

/** Many random runs, each call's answer compared with that of a slow model written from the document. */
public final class ModelTest {
    private static final int RUNS = 3000;
    private static final int CALLS = 512;
    private static final int[] FAR_OFF = {Integer.MIN_VALUE, Integer.MAX_VALUE, 1 << 16, -64, 64};

    public static void main(String[] args) {
        for (int seed = 0; seed < RUNS; seed++) {
            String fault = new Run(seed).fault();
            if (fault != null) {
                System.out.println("run " + seed + ": " + fault);
                System.exit(1);
            }
        }
        System.out.println(RUNS + " runs of " + CALLS + " calls answer as the model does");
    }

    private record Key(int device, int life, long number, int kind) {
        static final Comparator<Key> ORDER = Comparator.comparingInt(Key::device).thenComparingInt(Key::life)
            .thenComparingLong(Key::number).thenComparingInt(Key::kind);
    }

    /** When it was told is no part of what makes two the same, so it stands elsewhere. */
    private record Telling(Key key, long second, long value) {
        static final Comparator<Telling> ORDER =
            Comparator.comparingLong(Telling::second).thenComparingLong(Telling::value);
    }

    private record Correction(int device, int kind, long second, long value, long told) {
    }

    private record Mark(long second, long truly) {
    }

    private static final class Content {
        final Set<Telling> tellings = new HashSet<>();
        final Set<Correction> corrections = new HashSet<>();
        final Set<Telling> choices = new HashSet<>();
        long bound;

        List<Object> state() {
            return List.of(Set.copyOf(tellings), Set.copyOf(corrections), Set.copyOf(choices), bound);
        }

        void take(Content other) {
            tellings.addAll(other.tellings);
            corrections.addAll(other.corrections);
            choices.addAll(other.choices);
            bound = Math.max(bound, other.bound);
        }

        Stream<Telling> live() {
            return tellings.stream().filter(t -> t.second() >= bound);
        }

        List<Telling> liveOf(Key key) {
            return live().filter(t -> t.key().equals(key)).sorted(Telling.ORDER).toList();
        }

        List<Key> conflicts() {
            return live().map(Telling::key).distinct().filter(key -> liveOf(key).size() > 1)
                .filter(key -> liveOf(key).stream().noneMatch(choices::contains)).sorted(Key.ORDER).toList();
        }

        Stream<Telling> seen(int device, int kind) {
            return live().filter(t -> t.key().device() == device && t.key().kind() == kind).filter(this::isSeen);
        }

        private boolean isSeen(Telling t) {
            List<Telling> all = liveOf(t.key());
            return all.size() == 1 || all.stream().filter(choices::contains).findFirst().equals(Optional.of(t));
        }
    }

    private static final class Model {
        final List<Integer> lives = new ArrayList<>();
        final List<Long> firsts = new ArrayList<>();
        final List<List<Mark>> marks = new ArrayList<>();
        final Map<Telling, Long> told = new HashMap<>();
        final Set<Correction> corrections = new LinkedHashSet<>();
        final List<Content> sets = new ArrayList<>();
        final Map<Integer, Content> waiting = new HashMap<>();
        final Map<Integer, Integer> openBatches = new TreeMap<>();
        int batches;

        boolean isDevice(int d) {
            return d >= 0 && d < lives.size();
        }

        boolean isSet(int s) {
            return s >= 0 && s < sets.size();
        }

        static boolean isNumber(long n) {
            return 0 <= n && n <= 1_000_000;
        }

        static boolean isValue(long v) {
            return -1_000_000_000 <= v && v <= 1_000_000_000;
        }

        long device() {
            if (lives.size() == 4) {
                return -1;
            }
            lives.add(0);
            firsts.add(0L);
            marks.add(new ArrayList<>());
            return lives.size() - 1;
        }

        long tell(int d, long number, int kind, long second, long v, long on) {
            if (!isDevice(d) || !isNumber(number) || kind < 0 || kind > 3 || !isNumber(second) || !isValue(v)
                || !isNumber(on) || number < firsts.get(d)) {
                return -1;
            }
            Telling t = new Telling(new Key(d, lives.get(d), number, kind), second, v);
            if (told.containsKey(t)) {
                return 0;
            }
            if (told.size() == 60) {
                return -1;
            }
            told.put(t, on);
            return 1;
        }

        boolean reset(int d, long number) {
            if (!isDevice(d) || !isNumber(number) || lives.get(d) == 99) {
                return false;
            }
            lives.set(d, lives.get(d) + 1);
            firsts.set(d, number);
            return true;
        }

        long life(int d) {
            return isDevice(d) ? lives.get(d) : -1;
        }

        long set(int d) {
            if (!isDevice(d) || sets.size() == 6) {
                return -1;
            }
            Content c = new Content();
            told.keySet().stream().filter(t -> t.key().device() == d).forEach(c.tellings::add);
            sets.add(c);
            return sets.size() - 1;
        }

        boolean bring(int s, int o) {
            Content into = waiting.getOrDefault(s, sets.get(s));
            List<Object> before = into.state();
            Content copy = new Content();
            copy.take(sets.get(o));
            into.take(copy);
            return !before.equals(into.state());
        }

        long join(int s, int o) {
            if (!isSet(s) || !isSet(o)) {
                return -1;
            }
            bring(s, o);
            return sets.get(s).conflicts().size();
        }

        boolean correct(int s, int d, int kind, long second, long v, long on) {
            if (!isSet(s) || !isDevice(d) || kind < 0 || kind > 3 || !isNumber(second) || !isValue(v) || !isNumber(on)) {
                return false;
            }
            Correction c = new Correction(d, kind, second, v, on);
            if (corrections.size() == 20 && !corrections.contains(c)) {
                return false;
            }
            corrections.add(c);
            sets.get(s).corrections.add(c);
            return true;
        }

        long last(int s, int d, int kind) {
            if (!isSet(s)) {
                return Long.MIN_VALUE;
            }
            return sets.get(s).seen(d, kind)
                .max(Comparator.comparingInt((Telling t) -> t.key().life()).thenComparingLong(t -> t.key().number()))
                .map(Telling::value).orElse(Long.MIN_VALUE);
        }

        long known(int s, int d, int kind, long second, long on) {
            if (!isSet(s)) {
                return Long.MIN_VALUE;
            }
            Optional<Telling> best = sets.get(s).seen(d, kind)
                .filter(t -> t.second() <= second && told.get(t) <= on)
                .max(Comparator.comparingLong(Telling::second).thenComparingInt(t -> t.key().life())
                    .thenComparingLong(t -> t.key().number()));
            if (best.isEmpty()) {
                return Long.MIN_VALUE;
            }
            return sets.get(s).corrections.stream()
                .filter(c -> c.device() == d && c.kind() == kind && c.second() == best.get().second() && c.told() <= on)
                .max(Comparator.comparingLong(Correction::told).thenComparingLong(Correction::value))
                .map(Correction::value).orElse(best.get().value());
        }

        long gap(int s, int d, int k) {
            if (!isSet(s) || k < 0) {
                return -1;
            }
            TreeMap<Integer, TreeSet<Long>> byLife = new TreeMap<>();
            for (Telling t : sets.get(s).tellings) {
                if (t.key().device() == d) {
                    byLife.computeIfAbsent(t.key().life(), l -> new TreeSet<>()).add(t.key().number());
                }
            }
            if (byLife.isEmpty()) {
                return -1;
            }
            TreeSet<Long> numbers = byLife.lastEntry().getValue();
            long rest = k;
            for (long n = numbers.first(); n < numbers.last(); n++) {
                if (!numbers.contains(n) && rest-- == 0) {
                    return n;
                }
            }
            return -1;
        }

        long conflict(int s, int k, int what) {
            if (!isSet(s) || k < 0 || k >= sets.get(s).conflicts().size()) {
                return -1;
            }
            Key key = sets.get(s).conflicts().get(k);
            return switch (what) {
                case 0 -> key.device();
                case 1 -> key.life();
                case 2 -> key.number();
                case 3 -> key.kind();
                default -> -1;
            };
        }

        long settle(int s, int d, int kind, int which) {
            if (!isSet(s)) {
                return -1;
            }
            Content c = sets.get(s);
            Key key = c.conflicts().stream().filter(x -> x.device() == d && x.kind() == kind).findFirst().orElse(null);
            if (key == null || which < 0 || which >= c.liveOf(key).size()) {
                return -1;
            }
            c.choices.add(c.liveOf(key).get(which));
            return c.conflicts().size();
        }

        boolean equal(int s, int o) {
            return isSet(s) && isSet(o) && sets.get(s).state().equals(sets.get(o).state());
        }

        long batch(int s) {
            if (!isSet(s) || waiting.containsKey(s)) {
                return -1;
            }
            waiting.put(s, new Content());
            openBatches.put(batches, s);
            return batches++;
        }

        boolean endBatch(int b) {
            Integer s = openBatches.remove(b);
            if (s == null) {
                return false;
            }
            sets.get(s).take(waiting.remove(s));
            return true;
        }

        long retain(int s, long before) {
            if (!isSet(s) || before < 0 || before > 2_000_000) {
                return -1;
            }
            long live = sets.get(s).live().count();
            sets.get(s).bound = Math.max(sets.get(s).bound, before);
            return live - sets.get(s).live().count();
        }

        long kept(int s, int kind) {
            return !isSet(s) ? 0 : sets.get(s).tellings.stream()
                .filter(t -> t.second() < sets.get(s).bound && t.key().kind() == kind)
                .collect(Collectors.summingLong(Telling::value));
        }

        boolean mark(int d, long second, long truly) {
            if (!isDevice(d) || !isNumber(second) || !isNumber(truly) || marks.get(d).size() == 10) {
                return false;
            }
            List<Mark> all = marks.get(d);
            Mark before = all.isEmpty() ? new Mark(-1, -1) : all.get(all.size() - 1);
            return second > before.second() && truly >= before.truly() && all.add(new Mark(second, truly));
        }

        long corrected(int d, long second, int part) {
            if (!isDevice(d) || !isNumber(second) || part < 0 || part > 1) {
                return Long.MIN_VALUE;
            }
            BigInteger over = BigInteger.valueOf(second);
            BigInteger under = BigInteger.ONE;
            List<Mark> all = marks.get(d);
            if (!all.isEmpty() && second <= all.get(0).second()) {
                over = BigInteger.valueOf(all.get(0).truly() - (all.get(0).second() - second));
            } else if (!all.isEmpty() && second >= all.get(all.size() - 1).second()) {
                Mark end = all.get(all.size() - 1);
                over = BigInteger.valueOf(end.truly() + (second - end.second()));
            } else if (!all.isEmpty()) {
                int i = 0;
                while (all.get(i + 1).second() < second) {
                    i++;
                }
                Mark a = all.get(i);
                Mark b = all.get(i + 1);
                under = BigInteger.valueOf(b.second() - a.second());
                over = BigInteger.valueOf(a.truly()).multiply(BigInteger.valueOf(b.second() - second))
                    .add(BigInteger.valueOf(b.truly()).multiply(BigInteger.valueOf(second - a.second())));
            }
            BigInteger shared = over.gcd(under);
            return (part == 0 ? over : under).divide(shared).longValueExact();
        }

        long play(long seed, int turns) {
            if (sets.isEmpty() || turns < 0 || turns > 1000) {
                return -1;
            }
            long changed = 0;
            long x = seed;
            for (int i = 0; i < turns; i++) {
                x = x * 6364136223846793005L + 1442695040888963407L;
                int a = (int) ((x >>> 33) % sets.size());
                x = x * 6364136223846793005L + 1442695040888963407L;
                int b = (int) ((x >>> 33) % sets.size());
                changed += a != b && bring(a, b) ? 1 : 0;
            }
            return changed;
        }
    }

    /** One object beside one model. Runs differ in how narrow their numbers are, so that keys meet. */
    private static final class Run {
        private final Random random;
        private final DeviceSets real = new DeviceSets();
        private final Model model = new Model();
        private final int numbers;
        private final int seconds;
        private final int values;

        Run(int seed) {
            random = new Random(seed);
            numbers = 1 + random.nextInt(6);
            seconds = 2 + random.nextInt(20);
            values = 1 + random.nextInt(4);
        }

        String fault() {
            for (int i = 0; i < CALLS; i++) {
                String call = step(i);
                if (call != null) {
                    return "call " + i + ": " + call;
                }
            }
            return null;
        }

        private int at(int bound) {
            int rare = random.nextInt(120);
            return rare == 0 ? FAR_OFF[random.nextInt(FAR_OFF.length)] : rare < 3 ? random.nextInt(12) - 4
                : random.nextInt(bound);
        }

        private int someSet() {
            return at(Math.max(1, model.sets.size()));
        }

        private int someDevice() {
            return at(Math.max(1, model.lives.size()));
        }

        private long number(int bound) {
            int rare = random.nextInt(300);
            return rare == 0 ? 1_000_000 : rare == 1 ? 1_000_001 : rare == 2 ? -1 : rare == 3 ? random.nextLong()
                : random.nextInt(bound);
        }

        private long value() {
            int rare = random.nextInt(300);
            return rare == 0 ? 1_000_000_000 : rare == 1 ? -1_000_000_000 : rare == 2 ? -1_000_000_001
                : rare == 3 ? random.nextLong() : random.nextInt(2 * values + 1) - values;
        }

        private static String compare(String call, Object got, Object want) {
            return Objects.equals(got, want) ? null : call + " answered " + got + ", the model " + want;
        }

        private String step(int i) {
            int choice = i < 4 ? random.nextInt(2) : i < 40 ? random.nextInt(8) : random.nextInt(34);
            int s = someSet();
            int o = someSet();
            int d = someDevice();
            int kind = at(random.nextInt(3) == 0 ? 4 : 1);
            long second = number(seconds);
            return choice < 17 ? change(choice, s, o, d, kind, second) : ask(choice, s, o, d, kind, second);
        }

        private String change(int choice, int s, int o, int d, int kind, long second) {
            long n = number(numbers);
            long v = value();
            long on = number(6);
            switch (choice) {
                case 0:
                    return compare("device", (long) real.device(), model.device());
                case 6:
                    return random.nextInt(8) != 0 ? null : compare("reset", real.reset(d, n), model.reset(d, n));
                case 7:
                    return random.nextInt(6) != 0 ? null : compare("set", (long) real.set(d), model.set(d));
                case 8, 9:
                    return compare("join", (long) real.join(s, o), model.join(s, o));
                case 10, 11:
                    return compare("correct", real.correct(s, d, kind, second, v, on),
                        model.correct(s, d, kind, second, v, on));
                case 12:
                    int which = at(3);
                    return compare("settle", (long) real.settle(s, d, kind, which), model.settle(s, d, kind, which));
                case 13:
                    return compare("batch", (long) real.batch(s), model.batch(s));
                case 14:
                    int b = at(Math.max(1, model.batches)) - random.nextInt(2);
                    return compare("endBatch", real.endBatch(b), model.endBatch(b));
                case 15:
                    long before = random.nextInt(20) == 0 ? 2_000_000 + random.nextInt(2) : number(seconds) / 2;
                    return compare("retain", (long) real.retain(s, before), model.retain(s, before));
                case 16:
                    return markOrPlay(d);
                default:
                    return compare("tell", (long) real.tell(d, n, kind, second, v, on),
                        model.tell(d, n, kind, second, v, on));
            }
        }

        private String markOrPlay(int d) {
            if (random.nextInt(6) == 0) {
                long seed = random.nextLong();
                int turns = random.nextInt(30) == 0 ? at(1003) : at(5);
                return compare("play", (long) real.play(seed, turns), model.play(seed, turns));
            }
            int count = d >= 0 && d < model.marks.size() ? model.marks.get(d).size() : 0;
            long second = number(20) + 17L * count;
            long truly = number(20) + 19L * count;
            return compare("mark", real.mark(d, second, truly), model.mark(d, second, truly));
        }

        private String ask(int choice, int s, int o, int d, int kind, long second) {
            int k = at(5);
            switch (choice) {
                case 17, 18:
                    return compare("last", real.last(s, d, kind), model.last(s, d, kind));
                case 19, 20, 21:
                    long on = number(7);
                    return compare("known", real.known(s, d, kind, second, on), model.known(s, d, kind, second, on));
                case 22, 23:
                    return compare("gap", (long) real.gap(s, d, k), model.gap(s, d, k));
                case 24, 25:
                    int what = at(4);
                    return compare("conflict", (long) real.conflict(s, k, what), model.conflict(s, k, what));
                case 26, 27:
                    return compare("equal", real.equal(s, o), model.equal(s, o));
                case 28:
                    return compare("kept", real.kept(s, kind), model.kept(s, kind));
                case 29, 30:
                    long far = random.nextInt(10) == 0 ? second : random.nextInt(200);
                    int part = at(2);
                    return compare("corrected", real.corrected(d, far, part), model.corrected(d, far, part));
                case 31:
                    return compare("life", (long) real.life(d), model.life(d));
                default:
                    return compare("join with itself", (long) real.join(s, s), model.join(s, s));
            }
        }
    }
}
