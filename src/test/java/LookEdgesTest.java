/** The edges that the document names in promises 6 and 7: what is looked at before and behind each run. */
public final class LookEdgesTest {
    private static final Checks CHECKS = new Checks();

    public static void main(String[] args) {
        Sentences sentences = new Sentences(CHECKS);
        sentences.of("Promise 6:", "IllegalArgumentException: no such what.", LookEdgesTest::noSuchWhat);
        sentences.of("Promise 6:", "Of the latest run", LookEdgesTest::beforeTheFirstRun,
            LookEdgesTest::behindARunOfNoCommands, LookEdgesTest::behindEachStatus, LookEdgesTest::betweenRuns);
        sentences.of("Promise 6:", "0 the number of the command at which it ended (how many there are, with status 0)",
            LookEdgesTest::endedAt);
        sentences.of("Promise 6:", "1 the latest residual in it (0)", LookEdgesTest::latestResidual);
        sentences.of("Promise 6:", "2 commands that were begun (those with numbers that are not so, and those passed"
            + " over, not)", LookEdgesTest::begun);
        sentences.of("Promise 6:", "3 how often the index was passed since its beginning", LookEdgesTest::index);
        sentences.of("Promise 6:", "4 the head's track", LookEdgesTest::head);
        sentences.of("Promise 6:", "5 how often ever 6, 7, 8 came to a record and 9 wrote one",
            LookEdgesTest::cameToARecord, LookEdgesTest::otherCommands, LookEdgesTest::ever);
        sentences.of("Promise 7:", "The clock.", LookEdgesTest::clock);
        sentences.finish();
    }

    /** What 0 to 5 answer. */
    private static void looksDue(String what, CountedUnit x, int... due) {
        for (int i = 0; i < due.length; i++) {
            CHECKS.due(what + ", look " + i, x.look(i), due[i]);
        }
    }

    private static void noSuchWhat() {
        Bench b = new Bench();
        for (int what : new int[] {-1, 6, 7, Integer.MIN_VALUE, Integer.MAX_VALUE}) {
            CHECKS.argument("before a run, what " + what, () -> b.unit.look(what));
        }
        b.run(Bench.SEEK, 5, 0);
        for (int what : new int[] {-1, 6}) {
            CHECKS.argument("behind a run, what " + what, () -> b.unit.look(what));
        }
        CHECKS.due("first", b.unit.look(0), 1);
        CHECKS.due("last", b.unit.look(5), 0);
    }

    private static void beforeTheFirstRun() {
        CountedUnit x = new CountedUnit();
        looksDue("new", x, 0, 0, 0, 0, 0, 0);
        x.command(Bench.SEEK, 9, 0);
        x.allocate(0, 1);
        x.store(0, 1, 1);
        x.fetch(0, 1);
        looksDue("without a run", x, 0, 0, 0, 0, 0, 0);
    }

    private static void behindARunOfNoCommands() {
        CountedUnit x = new CountedUnit();
        x.start();
        looksDue("the first run", x, 0, 0, 0, 0, 0, 0);
        Bench b = bench();
        b.run(Bench.READ_KEY, 100, 9, Bench.SEEK, 3, 0, Bench.SKIP, 0, 600, Bench.SKIP, 0, 601);
        looksDue("a run before", b.unit, 3, 7, 3, 1, 3, 3);
        b.run();
        looksDue("a later run", b.unit, 0, 0, 0, 0, 3, 3);
    }

    /** Two records of key 2 and data 3 on track 0, the head at its beginning; they were written: look 5 is 2. */
    private static Bench bench() {
        Bench b = new Bench();
        b.lay(0, 2, 3, 2, 3);
        b.turnTo(0);
        return b;
    }

    private static void statusDue(Bench b, int status, int[] looks, int... triples) {
        CHECKS.due("status", b.run(triples), status);
        looksDue("status " + status, b.unit, looks);
    }

    private static void behindEachStatus() {
        statusDue(bench(), 0, new int[] {3, 1, 3, 1, 2, 3}, Bench.READ_KEY, 100, 3, Bench.SKIP, 0, 600,
            Bench.SEEK, 2, 0);
        statusDue(bench(), 1, new int[] {2, 1, 3, 2, 1, 3}, Bench.READ_KEY, 100, 3, Bench.SEEK, 1, 0,
            Bench.READ_DATA, 100, 9, Bench.SKIP, 0, 0);
        statusDue(bench(), 2, new int[] {1, 1, 1, 0, 0, 3}, Bench.READ_KEY, 100, 3, Bench.READ_DATA, 100, 61);
        statusDue(bench(), 3, new int[] {1, -1, 2, 0, 0, 4}, Bench.READ_KEY, 100, 3, Bench.READ_DATA, 100, 2,
            Bench.SKIP, 0, 0);
        Bench spoiled = bench();
        spoiled.unit.spoil(0, 2);
        statusDue(spoiled, 4, new int[] {1, 5, 2, 0, 0, 4}, Bench.READ_DATA, 100, 3, Bench.READ_DATA, 100, 5,
            Bench.SKIP, 0, 0);
        Bench full = new Bench();
        full.layThirty();
        full.turnTo(580);
        statusDue(full, 5, new int[] {1, 4, 2, 1, 0, 31}, Bench.READ_DATA, 100, 4, Bench.WRITE_RECORD, 254, 0,
            Bench.SKIP, 0, 0);
        // 133 rounds that pass the index once each, and a SEEK.
        Bench endless = new Bench();
        endless.lay(4, 0, 0);
        endless.turnTo(0);
        statusDue(endless, 6, new int[] {1, 0, 400, 133, 4, 1}, Bench.SEEK, 4, 0, Bench.NUMBER, 2, 0,
            Bench.BACK, 0, 0);
    }

    private static void betweenRuns() {
        Bench b = bench();
        b.run(Bench.READ_KEY, 100, 9, Bench.SEEK, 3, 0, Bench.SKIP, 0, 600, Bench.SKIP, 0, 601);
        b.unit.command(Bench.SKIP, 0, 1);
        looksDue("another command", b.unit, 3, 7, 3, 1, 3, 3);
        b.unit.command(-1, 0, 0);
        looksDue("emptied", b.unit, 3, 7, 3, 1, 3, 3);
        b.unit.allocate(0, 2);
        b.unit.store(0, 5, 5);
        b.unit.scratch(0);
        looksDue("data sets", b.unit, 3, 7, 3, 1, 3, 3);
    }

    private static void endedAt() {
        Bench b = bench();
        b.run(Bench.SKIP, 0, 0);
        CHECKS.due("one command", b.unit.look(0), 1);
        b.run(Bench.SKIP, 0, 601);
        CHECKS.due("at the first", b.unit.look(0), 0);
        b.run(Bench.SKIP, 0, 0, Bench.SKIP, 0, 601, Bench.SKIP, 0, 0);
        CHECKS.due("at the second", b.unit.look(0), 1);
        b.runAt(0, Bench.NUMBER, 1, 0, Bench.SKIP, 0, 0);
        CHECKS.due("the last one passed over", b.unit.look(0), 2);
        b.runAt(0, Bench.NUMBER, 1, 0);
        CHECKS.due("none to pass over", b.unit.look(0), 1);
        int[] sixteen = new int[48];
        for (int i = 0; i < 16; i++) {
            sixteen[3 * i] = Bench.SKIP;
        }
        b.run(sixteen);
        CHECKS.due("sixteen", b.unit.look(0), 16);
        sixteen[47] = -1;
        b.run(sixteen);
        CHECKS.due("at the sixteenth", b.unit.look(0), 15);
    }

    private static void latestResidual() {
        Bench b = bench();
        b.run(Bench.SKIP, 0, 0);
        CHECKS.due("none", b.unit.look(1), 0);
        b.runAt(0, Bench.READ_KEY, 100, 5, Bench.READ_DATA, 100, 4);
        CHECKS.due("of two the latest", b.unit.look(1), 1);
        b.runAt(0, Bench.READ_KEY, 100, 5, Bench.WRITE_DATA, 100, 3);
        CHECKS.due("of a write that is as long", b.unit.look(1), 0);
        b.runAt(0, Bench.READ_KEY, 100, 5, Bench.WRITE_DATA, 100, 2);
        CHECKS.due("of a write that is not", b.unit.look(1), -1);
        b.runAt(0, Bench.READ_KEY, 100, 5, Bench.READ_COUNT, 100, 0, Bench.SKIP, 0, 1, Bench.NUMBER, 9, 0);
        CHECKS.due("others have none", b.unit.look(1), 3);
        b.runAt(0, Bench.READ_KEY, 100, 5, Bench.READ_DATA, 100, 61);
        CHECKS.due("numbers not so", b.unit.look(1), 3);
        b.runAt(0, Bench.READ_KEY, 100, 5, Bench.SEEK, 1, 0, Bench.READ_KEY, 100, 60);
        CHECKS.due("no record", b.unit.look(1), 3);
        b.run(Bench.SEEK, 0, 0);
        CHECKS.due("none in this run", b.unit.look(1), 0);
        b.unit.spoil(0, 1);
        b.runAt(0, Bench.READ_KEY, 100, 5, Bench.READ_DATA, 100, 4);
        CHECKS.due("of a spoiled record", b.unit.look(1), 4);
    }

    private static void begun() {
        Bench b = bench();
        b.run(Bench.SKIP, 0, 0, Bench.SKIP, 0, 600);
        CHECKS.due("two", b.unit.look(2), 2);
        b.run(Bench.SKIP, 0, 0, Bench.SKIP, 0, 601);
        CHECKS.due("numbers not so", b.unit.look(2), 1);
        b.runAt(0, Bench.NUMBER, 1, 0, Bench.SKIP, 0, 0);
        CHECKS.due("passed over", b.unit.look(2), 1);
        b.runAt(0, Bench.NUMBER, 2, 0, Bench.SKIP, 0, 0);
        CHECKS.due("not passed over", b.unit.look(2), 2);
        b.runAt(0, Bench.NUMBER, 2, 0, Bench.BACK, 0, 0);
        CHECKS.due("again and a BACK", b.unit.look(2), 3);
        b.runAt(0, Bench.READ_KEY, 100, 1, Bench.SKIP, 0, 0);
        CHECKS.due("status 3 at the first one", b.unit.look(2), 1);
        b.run(Bench.SEEK, 1, 0, Bench.READ_COUNT, 100, 0, Bench.SKIP, 0, 0);
        CHECKS.due("status 1 at the second one", b.unit.look(2), 2);
    }

    private static void index() {
        Bench b = bench();
        b.run(Bench.SKIP, 0, 599);
        CHECKS.due("a place before it", b.unit.look(3), 0);
        b.run(Bench.SKIP, 0, 1);
        CHECKS.due("at it", b.unit.look(3), 1);
        b.run(Bench.SKIP, 0, 1);
        CHECKS.due("behind it", b.unit.look(3), 0);
        b.runAt(0, Bench.SKIP, 0, 600, Bench.SEEK, 0, 0, Bench.SKIP, 0, 600);
        CHECKS.due("a SEEK does not matter", b.unit.look(3), 2);
        b.runAt(590, Bench.SEEK, 0, 0, Bench.SKIP, 0, 600);
        CHECKS.due("its own index, too", b.unit.look(3), 2);
    }

    private static void head() {
        Bench b = new Bench();
        CHECKS.due("new", b.unit.look(4), 0);
        for (int track : new int[] {31, 0, 1, 30}) {
            b.run(Bench.SEEK, track, 0);
            CHECKS.due("track", b.unit.look(4), track);
        }
        b.run(Bench.SEEK, 32, 0);
        CHECKS.due("of no track", b.unit.look(4), 30);
        b.run(Bench.SEEK, 2, 0, Bench.SEEK, 3, 0, Bench.SEEK, -1, 0);
        CHECKS.due("the latest one", b.unit.look(4), 3);
    }

    private static void comeDue(Bench b, String what, int due, int... triples) {
        int before = b.unit.look(5);
        b.run(triples);
        CHECKS.due(what, b.unit.look(5) - before, due);
    }

    private static void cameToARecord() {
        comeDue(bench(), "a key", 1, Bench.READ_KEY, 100, 2);
        comeDue(bench(), "data", 1, Bench.READ_DATA, 100, 3);
        comeDue(bench(), "written data", 1, Bench.WRITE_DATA, 100, 3);
        comeDue(bench(), "a written record", 1, Bench.WRITE_RECORD, 100, 0);
        comeDue(bench(), "key and data of one record", 2, Bench.READ_KEY, 100, 2, Bench.READ_DATA, 100, 3);
        comeDue(bench(), "status 3 of a key", 1, Bench.READ_KEY, 100, 0);
        comeDue(bench(), "status 3 of a write", 1, Bench.WRITE_DATA, 100, 0);
        Bench spoiled = bench();
        spoiled.unit.spoil(0, 1);
        comeDue(spoiled, "status 4", 1, Bench.READ_DATA, 100, 3);
        comeDue(new Bench(), "no record to read a key of", 0, Bench.READ_KEY, 100, 2);
        comeDue(new Bench(), "no record to read data of", 0, Bench.READ_DATA, 100, 2);
        comeDue(new Bench(), "no record to write", 0, Bench.WRITE_DATA, 100, 0);
        comeDue(bench(), "numbers of a read not so", 0, Bench.READ_DATA, 100, 61);
        comeDue(bench(), "numbers of a write not so", 0, Bench.WRITE_RECORD, 255, 0);
        Bench full = new Bench();
        full.layThirty();
        full.turnTo(580);
        comeDue(full, "no room", 0, Bench.READ_COUNT, 100, 0, Bench.WRITE_RECORD, 254, 0);
    }

    private static void otherCommands() {
        comeDue(bench(), "searches, counts, BACK", 0, Bench.NUMBER, 2, 0, Bench.BACK, 0, 0, Bench.READ_COUNT, 100, 0,
            Bench.KEY, 100, 0, Bench.SKIP, 0, 1, Bench.HIGHER, 100, 0);
        comeDue(bench(), "seek, skip, erase", 0, Bench.SEEK, 0, 0, Bench.SKIP, 0, 9, Bench.ERASE, 0, 0);
    }

    private static void ever() {
        Bench b = bench();
        for (int run = 1; run <= 5; run++) {
            b.run(Bench.READ_DATA, 100, 3);
            CHECKS.due("all runs together", b.unit.look(5), 2 + run);
        }
        b.unit.allocate(0, 3);
        b.unit.store(0, 1, 1);
        b.unit.fetch(0, 1);
        CHECKS.due("not what is stored and fetched", b.unit.look(5), 7);
        b.run();
        CHECKS.due("behind a run of no commands", b.unit.look(5), 7);
    }

    private static void clock() {
        Bench b = new Bench();
        CHECKS.due("new", b.unit.clock(), 0);
        b.run(Bench.SKIP, 0, 599);
        CHECKS.due("before a turn", b.unit.clock(), 599);
        b.run(Bench.SKIP, 0, 1);
        CHECKS.due("a turn", b.unit.clock(), 600);
        b.run(Bench.SKIP, 0, 1);
        CHECKS.due("behind a turn", b.unit.clock(), 601);
        CHECKS.due("asking takes no time", b.unit.clock(), 601);
        b.unit.allocate(0, 4);
        b.unit.store(0, 7, 3);
        b.unit.fetch(0, 7);
        b.unit.spoil(3, 1);
        b.unit.scratch(0);
        CHECKS.due("nor do other calls", b.unit.clock(), 601);
        b.run(Bench.WRITE_RECORD, 254, 0);
        long before = b.unit.clock();
        CHECKS.due("a hundred rounds of two turns", b.run(Bench.SEEK, 0, 0, Bench.SKIP, 0, 600, Bench.NUMBER, 2, 0,
            Bench.BACK, 0, 0), 6);
        CHECKS.due("clock", b.unit.clock() - before, 120_000);
    }
}
