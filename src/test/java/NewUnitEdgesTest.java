/** The edges that the document names in promises 1 to 4: a new object, the program and the memory. */
public final class NewUnitEdgesTest {
    private static final Checks CHECKS = new Checks();
    private static final int LEAST = Integer.MIN_VALUE;
    private static final int MOST = Integer.MAX_VALUE;

    public static void main(String[] args) {
        Sentences sentences = new Sentences(CHECKS);
        sentences.of("What it is", "An object is used for at most 512 calls", NewUnitEdgesTest::lastCall);
        sentences.of("Terms", "the HEAD is over one track (0 at first)", NewUnitEdgesTest::headAtFirst);
        sentences.of("Terms", "the CLOCK (0 at first)", NewUnitEdgesTest::clockAtFirst);
        sentences.of("Terms", "THE MEMORY has 256 bytes (0 at first).", NewUnitEdgesTest::memoryAtFirst);
        sentences.of("Terms", "A PROGRAM is a row of at most 16 COMMANDS", NewUnitEdgesTest::sixteenCommands);
        sentences.of("Promise 1:", "Empty tracks", NewUnitEdgesTest::emptyTracks);
        sentences.of("Promise 1:", "no data sets", NewUnitEdgesTest::noDataSets);
        sentences.of("Promise 1:", "no program.", NewUnitEdgesTest::noProgram);
        sentences.of("Promise 2:", "One more command", NewUnitEdgesTest::oneMoreCommand);
        sentences.of("Promise 2:", "its numbers are looked at when it is come to", NewUnitEdgesTest::anyNumbers,
            NewUnitEdgesTest::notComeTo, NewUnitEdgesTest::lengthsWhenComeTo);
        sentences.of("Promise 2:", "kind -1: the program is empty (0), also with 16: how many.",
            NewUnitEdgesTest::emptyProgram);
        sentences.of("Promise 2:", "IllegalArgumentException: no such kind", NewUnitEdgesTest::noSuchKind);
        sentences.of("Promise 2:", "IllegalStateException: there are 16.",
            NewUnitEdgesTest::refusedCommandChangesNothing);
        sentences.of("Promise 3:", "becomes the lowest 8 bits of v.", NewUnitEdgesTest::lowestBits);
        sentences.of("Promise 3:", "IllegalArgumentException: there is none such.", NewUnitEdgesTest::pokeEdges);
        sentences.of("Promise 4:", "It (0 .. 255). Likewise.", NewUnitEdgesTest::peekEdges);
        sentences.finish();
    }

    private static void lastCall() {
        CountedUnit x = new CountedUnit();
        x.command(Bench.SKIP, 0, 7);
        for (int i = 2; i < CountedUnit.MOST_CALLS; i++) {
            CHECKS.due("start, call " + i, x.start(), 0);
        }
        CHECKS.due("clock, call 512", x.clock(), 510 * 7);
        CHECKS.due("calls", x.calls(), 512);
    }

    private static void headAtFirst() {
        Bench b = new Bench();
        CHECKS.due("head", b.unit.look(4), 0);
        CHECKS.due("a seek to 0", b.time(CHECKS, "seek", 0, Bench.SEEK, 0, 0), 10);
        Bench other = new Bench();
        CHECKS.due("a seek to 1", other.time(CHECKS, "seek", 0, Bench.SEEK, 1, 0), 13);
    }

    private static void clockAtFirst() {
        CountedUnit x = new CountedUnit();
        CHECKS.due("clock", x.clock(), 0);
        x.command(Bench.SKIP, 0, 0);
        x.start();
        CHECKS.due("behind a skip of 0", x.clock(), 0);
        x.command(Bench.SKIP, 0, 1);
        x.start();
        CHECKS.due("behind a skip of 1", x.clock(), 1);
    }

    private static void memoryAtFirst() {
        CountedUnit x = new CountedUnit();
        for (int i = 0; i < 256; i++) {
            CHECKS.due("byte " + i, x.peek(i), 0);
        }
        CHECKS.argument("byte 256", () -> x.peek(256));
        CHECKS.argument("byte -1", () -> x.peek(-1));
    }

    private static void emptyTracks() {
        CountedUnit x = new CountedUnit();
        for (int t = 0; t < 32; t++) {
            int track = t;
            CHECKS.due("records of " + t, x.record(t, 0, 0), 0);
            CHECKS.argument("record 1 of " + t, () -> x.record(track, 1, 0));
        }
        CHECKS.argument("track -1", () -> x.record(-1, 0, 0));
        CHECKS.argument("track 32", () -> x.record(32, 0, 0));
    }

    private static void noDataSets() {
        CountedUnit x = new CountedUnit();
        for (int s = 0; s < 6; s++) {
            int set = s;
            CHECKS.due("tracks of " + s, x.trackOf(s, -1), 0);
            CHECKS.argument("track 0 of " + s, () -> x.trackOf(set, 0));
            CHECKS.stateOf("scratch " + s, () -> x.scratch(set));
        }
        CHECKS.due("free", x.free(), 32);
    }

    private static void noProgram() {
        CountedUnit x = new CountedUnit();
        CHECKS.due("start", x.start(), 0);
        CHECKS.due("commands", x.look(0), 0);
        CHECKS.due("begun", x.look(2), 0);
        CHECKS.due("one more", x.command(Bench.SKIP, 0, 0), 1);
    }

    private static void oneMoreCommand() {
        CountedUnit x = new CountedUnit();
        for (int n = 1; n <= 16; n++) {
            CHECKS.due("command " + n, x.command(Bench.SKIP, 0, 1), n);
            long before = x.clock();
            CHECKS.due("start", x.start(), 0);
            CHECKS.due("each is done", x.clock() - before, n);
        }
    }

    private static CountedUnit withSkips(int count) {
        CountedUnit x = new CountedUnit();
        for (int i = 0; i < count; i++) {
            x.command(Bench.SKIP, 0, 1);
        }
        return x;
    }

    private static void sixteenCommands() {
        CHECKS.due("the sixteenth", withSkips(15).command(Bench.SKIP, 0, 1), 16);
        CHECKS.state("the seventeenth", () -> withSkips(16).command(Bench.SKIP, 0, 1));
        CountedUnit x = withSkips(16);
        CHECKS.due("sixteen run", x.start(), 0);
        CHECKS.due("sixteen places", x.clock(), 16);
        CHECKS.due("ended behind the last one", x.look(0), 16);
    }

    private static void anyNumbers() {
        CountedUnit x = new CountedUnit();
        for (int kind = 0; kind <= 11; kind++) {
            CHECKS.due("least, kind " + kind, x.command(kind, LEAST, LEAST), kind + 1);
        }
        x.command(-1, 0, 0);
        for (int kind = 0; kind <= 11; kind++) {
            CHECKS.due("most, kind " + kind, x.command(kind, MOST, MOST), kind + 1);
        }
        CHECKS.due("the first one is come to", x.start(), 2);
        CHECKS.due("ended at", x.look(0), 0);
    }

    private static void notComeTo() {
        Bench b = new Bench();
        b.lay(0, 0, 0);
        b.turnTo(0);
        CHECKS.due("passed over", b.run(Bench.NUMBER, 1, 0, Bench.SKIP, 0, 601), 0);
        b.turnTo(0);
        CHECKS.due("not passed over", b.run(Bench.NUMBER, 2, 0, Bench.SKIP, 0, 601), 2);
        b.turnTo(0);
        CHECKS.due("behind the end", b.run(Bench.SEEK, 1, 0, Bench.READ_COUNT, 0, 0, Bench.SKIP, 0, 601), 1);
        CHECKS.due("ended at", b.unit.look(0), 1);
        CHECKS.due("those before are done", b.time(CHECKS, "skip", 2, Bench.SKIP, 0, 5, Bench.SKIP, 0, 601), 5);
        CHECKS.due("ended at", b.unit.look(0), 1);
    }

    /** A count of track 9, number 1 comes to the memory: a key's length of 9, of which there is none. */
    private static void lengthsWhenComeTo() {
        for (int track = 8; track <= 9; track++) {
            Bench b = new Bench();
            b.lay(track, 0, 0);
            b.turnTo(0);
            int status = b.run(Bench.READ_COUNT, 10, 0, Bench.WRITE_RECORD, 10, 0);
            CHECKS.due("the count of track " + track + " is the lengths", status, track == 8 ? 0 : 2);
            CHECKS.due("records", b.unit.record(track, 0, 0), track == 8 ? 2 : 1);
        }
        Bench b = new Bench();
        b.bytes(20, 9, 0);
        b.unit.command(Bench.WRITE_RECORD, 20, 0);
        CHECKS.due("a key of 9", b.unit.start(), 2);
        b.bytes(20, 8);
        CHECKS.due("the same command, a key of 8", b.unit.start(), 0);
        CHECKS.due("key", b.unit.record(0, 1, 1), 8);
    }

    private static void emptyProgram() {
        for (int count : new int[] {0, 1, 15, 16}) {
            CountedUnit x = withSkips(count);
            CHECKS.due("emptied with " + count, x.command(-1, LEAST, MOST), 0);
            CHECKS.due("start", x.start(), 0);
            CHECKS.due("no command is left of " + count, x.clock(), 0);
            CHECKS.due("ended behind none", x.look(0), 0);
            CHECKS.due("the first one again", x.command(Bench.SKIP, 0, 3), 1);
            x.start();
            CHECKS.due("it alone is done", x.clock(), 3);
        }
    }

    private static void noSuchKind() {
        for (int kind : new int[] {-2, 12, LEAST, MOST}) {
            CHECKS.argument("kind " + kind, () -> new CountedUnit().command(kind, 0, 0));
            CHECKS.argument("kind " + kind + " with 16", () -> withSkips(16).command(kind, 0, 0));
        }
        CHECKS.due("kind -1", new CountedUnit().command(-1, 0, 0), 0);
        CHECKS.due("kind 0", new CountedUnit().command(0, 0, 0), 1);
        CHECKS.due("kind 11", new CountedUnit().command(11, 0, 0), 1);
    }

    private static void refusedCommandChangesNothing() {
        CountedUnit x = withSkips(16);
        for (int kind = 0; kind <= 11; kind++) {
            int refused = kind;
            CHECKS.state("kind " + kind, () -> x.command(refused, 0, 600));
        }
        CHECKS.argument("no such kind", () -> x.command(12, 0, 600));
        CHECKS.due("start", x.start(), 0);
        CHECKS.due("the sixteen are as they were", x.clock(), 16);
        CHECKS.due("how many", x.look(0), 16);
        CountedUnit y = withSkips(3);
        CHECKS.argument("no such kind", () -> y.command(-2, 0, 600));
        CHECKS.due("three are as they were", y.command(Bench.SKIP, 0, 0), 4);
    }

    private static void lowestBits() {
        int[][] rows = {{0, 0}, {1, 1}, {127, 127}, {128, 128}, {255, 255}, {256, 0}, {257, 1}, {511, 255}, {-1, 255},
            {-255, 1}, {-256, 0}, {-257, 255}, {LEAST, 0}, {LEAST + 1, 1}, {MOST, 255}, {MOST - 1, 254}};
        for (int i : new int[] {0, 1, 2, 3, 128, 254, 255}) {
            CountedUnit x = new CountedUnit();
            for (int[] row : rows) {
                x.poke(i, row[0]);
                CHECKS.due("byte " + i + " of " + row[0], x.peek(i), row[1]);
            }
        }
    }

    private static void pokeEdges() {
        CountedUnit x = new CountedUnit();
        for (int i : new int[] {-1, 256, LEAST, MOST}) {
            CHECKS.argumentOf("poke " + i, () -> x.poke(i, 1));
        }
        for (int i = 0; i < 256; i++) {
            CHECKS.due("refused, byte " + i, x.peek(i), 0);
        }
        x.poke(0, 200);
        x.poke(255, 201);
        CHECKS.due("first", x.peek(0), 200);
        CHECKS.due("last", x.peek(255), 201);
        CHECKS.due("behind the first", x.peek(1), 0);
        CHECKS.due("before the last", x.peek(254), 0);
        x.poke(100, 255);
        for (int i : new int[] {98, 99, 101, 102}) {
            CHECKS.due("only byte 100, not " + i, x.peek(i), 0);
        }
    }

    private static void peekEdges() {
        CountedUnit x = new CountedUnit();
        for (int i : new int[] {-1, 256, LEAST, MOST}) {
            CHECKS.argument("peek " + i, () -> x.peek(i));
        }
        for (int v : new int[] {0, 1, 127, 128, 254, 255}) {
            x.poke(0, v);
            x.poke(255, v);
            CHECKS.due("first", x.peek(0), v);
            CHECKS.due("last", x.peek(255), v);
        }
    }
}
