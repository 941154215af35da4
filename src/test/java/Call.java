import java.util.function.ToLongFunction;

/** A call with its name, so that one run of calls can be made on several objects; a boolean counts 1 or 0. */
record Call(String name, ToLongFunction<DeviceSets> on) {
    static Call device() {
        return new Call("device()", DeviceSets::device);
    }

    static Call tell(int device, long number, int kind, long second, long v, long on) {
        return new Call(named("tell", device, number, kind, second, v, on),
            x -> x.tell(device, number, kind, second, v, on));
    }

    static Call reset(int device, long number) {
        return new Call(named("reset", device, number), x -> x.reset(device, number) ? 1 : 0);
    }

    static Call life(int device) {
        return new Call(named("life", device), x -> x.life(device));
    }

    static Call set(int device) {
        return new Call(named("set", device), x -> x.set(device));
    }

    static Call join(int set, int other) {
        return new Call(named("join", set, other), x -> x.join(set, other));
    }

    static Call correct(int set, int device, int kind, long second, long v, long told) {
        return new Call(named("correct", set, device, kind, second, v, told),
            x -> x.correct(set, device, kind, second, v, told) ? 1 : 0);
    }

    static Call last(int set, int device, int kind) {
        return new Call(named("last", set, device, kind), x -> x.last(set, device, kind));
    }

    static Call known(int set, int device, int kind, long second, long on) {
        return new Call(named("known", set, device, kind, second, on), x -> x.known(set, device, kind, second, on));
    }

    static Call gap(int set, int device, int k) {
        return new Call(named("gap", set, device, k), x -> x.gap(set, device, k));
    }

    static Call conflict(int set, int k, int what) {
        return new Call(named("conflict", set, k, what), x -> x.conflict(set, k, what));
    }

    static Call settle(int set, int device, int kind, int which) {
        return new Call(named("settle", set, device, kind, which), x -> x.settle(set, device, kind, which));
    }

    static Call equal(int set, int other) {
        return new Call(named("equal", set, other), x -> x.equal(set, other) ? 1 : 0);
    }

    static Call batch(int set) {
        return new Call(named("batch", set), x -> x.batch(set));
    }

    static Call endBatch(int batch) {
        return new Call(named("endBatch", batch), x -> x.endBatch(batch) ? 1 : 0);
    }

    static Call retain(int set, long before) {
        return new Call(named("retain", set, before), x -> x.retain(set, before));
    }

    static Call kept(int set, int kind) {
        return new Call(named("kept", set, kind), x -> x.kept(set, kind));
    }

    static Call mark(int device, long second, long true2) {
        return new Call(named("mark", device, second, true2), x -> x.mark(device, second, true2) ? 1 : 0);
    }

    static Call corrected(int device, long second, int part) {
        return new Call(named("corrected", device, second, part), x -> x.corrected(device, second, part));
    }

    static Call play(long seed, int turns) {
        return new Call(named("play", seed, turns), x -> x.play(seed, turns));
    }

    private static String named(String method, long... arguments) {
        StringBuilder name = new StringBuilder(method).append('(');
        for (int i = 0; i < arguments.length; i++) {
            name.append(i == 0 ? "" : ", ").append(arguments[i]);
        }
        return name.append(')').toString();
    }
}
