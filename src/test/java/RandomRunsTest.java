import java.util.Random;

/** All promises: long runs of calls with a fixed seed, each answer compared with the plain unit's. */
public final class RandomRunsTest {
    private static final Checks CHECKS = new Checks();
    private static final int RUNS = 2000;
    /** With what one of them brings along, the calls on an object stay below 512. */
    private static final int CALLS = 440;
    /** Where records stand ready in the memory: no key, short ones, and the longest one. */
    private static final int[] READY = {160, 162, 167, 174, 181};
    private static final int[] LENGTHS = {0, 0, 1, 2, 1, 4, 4, 1, 8, 60};

    private final Random random;
    private final CountedUnit unit = new CountedUnit();
    private final PlainUnit plain = new PlainUnit();
    private final String name;
    /** A small world lets calls meet: few tracks, keys and places of the memory. */
    private final int tracks;
    private final int keys;
    private int calls;

    private RandomRunsTest(int seed) {
        random = new Random(seed);
        name = "run " + seed;
        tracks = seed % 3 == 0 ? 32 : 2 + seed % 3;
        keys = 4 + seed % 40;
        for (int i = 0; i < READY.length; i++) {
            pokeBoth(READY[i], LENGTHS[2 * i]);
            pokeBoth(READY[i] + 1, LENGTHS[2 * i + 1]);
        }
    }

    public static void main(String[] args) {
        for (int seed = 0; seed < RUNS; seed++) {
            RandomRunsTest run = new RandomRunsTest(seed);
            while (run.calls < CALLS) {
                run.oneCall();
            }
            run.compareAtTheEnd();
        }
        CHECKS.finish();
    }

    private static long answer(Checks.Call call) {
        try {
            return call.answer();
        } catch (IllegalArgumentException e) {
            return Long.MIN_VALUE;
        } catch (IllegalStateException e) {
            return Long.MIN_VALUE + 1;
        }
    }

    private void same(String what, Checks.Call of, Checks.Call due) {
        calls++;
        CHECKS.due(name + ": " + what, answer(of), answer(due));
    }

    private int below(int bound) {
        return random.nextInt(bound);
    }

    /** Mostly from 0 on below the bound, now and then at its edges or far beyond. */
    private int about(int bound) {
        int[] edges = {-1, bound, bound + 1, -2, Integer.MIN_VALUE, Integer.MAX_VALUE, 0, bound - 1};
        return below(12) == 0 ? edges[below(edges.length)] : below(bound);
    }

    private void oneCall() {
        int kind = below(100);
        if (kind < 14) {
            wholeProgram();
        } else if (kind < 24) {
            addCommand();
        } else if (kind < 38) {
            same("start", unit::start, plain::start);
        } else if (kind < 44) {
            pokeBoth(below(9) == 0 ? about(256) : below(160), below(2) == 0 ? random.nextInt() : below(4));
        } else if (kind < 56) {
            int i = about(256);
            same("peek " + i, () -> unit.peek(i), () -> plain.peek(i));
        } else if (kind < 68) {
            int what = about(6);
            same("look " + what, () -> unit.look(what), () -> plain.look(what));
        } else if (kind < 71) {
            same("clock", unit::clock, plain::clock);
        } else if (kind < 83) {
            recordCall();
        } else if (kind < 87) {
            setCall();
        } else {
            keyedCall();
        }
    }

    private void pokeBoth(int i, int v) {
        same("poke " + i, () -> {
            unit.poke(i, v);
            return 0;
        }, () -> {
            plain.poke(i, v);
            return 0;
        });
    }

    private void wholeProgram() {
        command(-1, 0, 0);
        if (below(2) == 0) {
            layRecords();
        } else {
            // Neither a write nor an erase, which would clear the track.
            command(5, 60 + below(40), 0);
        }
        int length = below(9);
        for (int i = 0; i < length; i++) {
            addCommand();
        }
        same("start", unit::start, plain::start);
    }

    private void layRecords() {
        command(0, below(tracks), 0);
        int count = below(9);
        for (int i = 0; i < count; i++) {
            command(9, READY[below(2) == 0 ? READY.length - 1 : below(READY.length)], 0);
        }
    }

    private void addCommand() {
        int[] kinds = {9, 9, 9, 9, 0, 1, 1, 1, 2, 3, 5, 6, 7, 7, 8, 10, 11, about(12)};
        int kind = kinds[below(kinds.length)];
        command(kind, first(kind), second(kind));
        if (kind >= 1 && kind <= 3 && below(4) > 0) {
            command(4, below(4) == 0 ? about(14) : 0, 0);
        }
    }

    private void command(int kind, int a, int b) {
        same("command " + kind, () -> unit.command(kind, a, b), () -> plain.command(kind, a, b));
    }

    private int first(int kind) {
        if (kind == 0) {
            return about(tracks);
        }
        if (kind == 1) {
            return about(10);
        }
        if (kind == 9 && below(20) > 0) {
            return READY[below(READY.length)];
        }
        return below(15) == 0 ? about(256) : 60 + below(40);
    }

    private int second(int kind) {
        if (kind == 2 || kind == 3) {
            return about(below(3) == 0 ? 9 : 2);
        }
        if (kind == 8 && below(8) > 0) {
            return LENGTHS[2 * below(READY.length) + 1];
        }
        if (kind == 11) {
            return about(below(2) == 0 ? 601 : 2);
        }
        return about(61);
    }

    private void recordCall() {
        int track = about(tracks);
        int k = below(2) == 0 ? 1 : about(8);
        int i = about(20);
        int what = about(4);
        int which = below(5);
        if (which < 2) {
            same("record", () -> unit.record(track, k, what), () -> plain.record(track, k, what));
        } else if (which < 4) {
            same("byteOf", () -> unit.byteOf(track, k, i), () -> plain.byteOf(track, k, i));
        } else {
            same("spoil", () -> {
                unit.spoil(track, k);
                return 0;
            }, () -> {
                plain.spoil(track, k);
                return 0;
            });
        }
    }

    private void setCall() {
        int set = about(6);
        int count = below(4) == 0 ? about(33) : 1 + below(4);
        int which = below(8);
        if (which < 4) {
            same("allocate", () -> unit.allocate(set, count), () -> plain.allocate(set, count));
        } else if (which < 6) {
            same("scratch", () -> {
                unit.scratch(set);
                return 0;
            }, () -> {
                plain.scratch(set);
                return 0;
            });
        } else if (which < 7) {
            same("trackOf", () -> unit.trackOf(set, count - 2), () -> plain.trackOf(set, count - 2));
        } else {
            same("free", unit::free, plain::free);
        }
    }

    private void keyedCall() {
        int set = about(6);
        int key = below(keys) - keys / 3;
        int n = below(2) == 0 ? about(61) : 50;
        if (below(3) == 0) {
            same("fetch", () -> unit.fetch(set, key), () -> plain.fetch(set, key));
        } else {
            same("store", () -> unit.store(set, key, n), () -> plain.store(set, key, n));
        }
    }

    private void compareAtTheEnd() {
        same("clock", unit::clock, plain::clock);
        for (int i = 0; i < 6; i++) {
            int what = i;
            same("look " + what, () -> unit.look(what), () -> plain.look(what));
        }
        for (int t = 0; t < 32; t++) {
            int track = t;
            same("records of " + track, () -> unit.record(track, 0, 0), () -> plain.record(track, 0, 0));
        }
    }
}
