/** The edges that the document names in promises 11 to 14: allocate, scratch, trackOf and free. */
public final class DataSetEdgesTest {
    private static final Checks CHECKS = new Checks();
    private static final int[] NO_SETS = {-1, 6, 7, Integer.MIN_VALUE, Integer.MAX_VALUE};

    public static void main(String[] args) {
        Sentences sentences = new Sentences(CHECKS);
        sentences.of("Terms", "DATA SETS 0 .. 5", DataSetEdgesTest::firstAndLastSet);
        sentences.of("Terms", "the lowest that no data set has", DataSetEdgesTest::lowestTracks);
        sentences.of("Terms", "those that stand side by side are an EXTENT", DataSetEdgesTest::extents,
            DataSetEdgesTest::lastAndFirstTrack);
        sentences.of("Terms", "more than 4 extents, or too few tracks, are refused", DataSetEdgesTest::fourExtents,
            DataSetEdgesTest::fiveExtents, DataSetEdgesTest::tooFewTracks);
        sentences.of("Terms", "All records of these tracks are gone then.", DataSetEdgesTest::recordsAreGone,
            DataSetEdgesTest::lastTracksRecords);
        sentences.of("Terms", "Its track j is the j-th of them.", DataSetEdgesTest::trackByNumber);
        sentences.of("Promise 11:", "Allocates tracks (1 .. 32): how many extents.", DataSetEdgesTest::oneAndAll);
        sentences.of("Promise 11:", "IllegalArgumentException: no such data set or number",
            DataSetEdgesTest::noSuchSetOrNumber);
        sentences.of("Promise 11:", "IllegalStateException: it is allocated, or refused (all stays then).",
            DataSetEdgesTest::isAllocated, DataSetEdgesTest::allStays);
        sentences.of("Promise 12:", "Its tracks are free (their records stay).", DataSetEdgesTest::scratched);
        sentences.of("Promise 12:", "IllegalArgumentException: there is none such", DataSetEdgesTest::scratchOfNone);
        sentences.of("Promise 12:", "IllegalStateException: it is not allocated.",
            DataSetEdgesTest::scratchNotAllocated);
        sentences.of("Promise 13:", "j -1: how many it has (0 when it is not allocated).", DataSetEdgesTest::howMany);
        sentences.of("Promise 13:", "IllegalArgumentException: no such data set or track.",
            DataSetEdgesTest::noSuchSetOrTrack);
        sentences.of("Promise 14:", "How many tracks no data set has.", DataSetEdgesTest::freeTracks);
        sentences.finish();
    }

    /** Free are 0, 2, 4 and all from 6 on: four extents. Sets 1, 3 and 5 have a track each. */
    private static CountedUnit fourHoles() {
        CountedUnit x = new CountedUnit();
        for (int set = 0; set < 6; set++) {
            x.allocate(set, 1);
        }
        x.scratch(0);
        x.scratch(2);
        x.scratch(4);
        return x;
    }

    /** Free are 0, 2, 4, 6 and all from 8 on: five extents. Set 2 has track 7. */
    private static CountedUnit fiveHoles() {
        CountedUnit x = fourHoles();
        x.allocate(0, 4);
        x.allocate(2, 1);
        x.scratch(0);
        return x;
    }

    private static void tracksDue(CountedUnit x, int set, int... due) {
        CHECKS.due("tracks of " + set, x.trackOf(set, -1), due.length);
        for (int j = 0; j < due.length; j++) {
            CHECKS.due("track " + j + " of " + set, x.trackOf(set, j), due[j]);
        }
    }

    private static void firstAndLastSet() {
        CountedUnit x = new CountedUnit();
        for (int set = 0; set < 6; set++) {
            CHECKS.due("allocate " + set, x.allocate(set, 2), 1);
            tracksDue(x, set, 2 * set, 2 * set + 1);
            CHECKS.due("store in " + set, x.store(set, 0, 0), 2 * set);
            CHECKS.due("fetch from " + set, x.fetch(set, 0), 0);
        }
        for (int set : NO_SETS) {
            CHECKS.argument("allocate " + set, () -> x.allocate(set, 2));
            CHECKS.argument("store in " + set, () -> x.store(set, 0, 0));
            CHECKS.argument("fetch from " + set, () -> x.fetch(set, 0));
        }
    }

    private static void lowestTracks() {
        CountedUnit x = fourHoles();
        x.allocate(0, 2);
        tracksDue(x, 0, 0, 2);
        x.allocate(2, 3);
        tracksDue(x, 2, 4, 6, 7);
        x.allocate(4, 1);
        tracksDue(x, 4, 8);
        x.scratch(0);
        x.scratch(4);
        x.allocate(4, 4);
        tracksDue(x, 4, 0, 2, 8, 9);
        tracksDue(x, 1, 1);
        tracksDue(x, 3, 3);
        tracksDue(x, 5, 5);
    }

    private static void extents() {
        CHECKS.due("one track", new CountedUnit().allocate(0, 1), 1);
        CHECKS.due("two side by side", new CountedUnit().allocate(0, 2), 1);
        CountedUnit x = new CountedUnit();
        x.allocate(0, 2);
        x.allocate(1, 1);
        x.scratch(0);
        CHECKS.due("up to a track of another", x.allocate(2, 2), 1);
        x.scratch(2);
        CHECKS.due("and behind it", x.allocate(2, 3), 2);
        tracksDue(x, 2, 0, 1, 3);
        x.scratch(1);
        CHECKS.due("the one between", x.allocate(1, 1), 1);
        x.scratch(1);
        CHECKS.due("it and one behind all", x.allocate(1, 2), 2);
        tracksDue(x, 1, 2, 4);
    }

    private static void lastAndFirstTrack() {
        CountedUnit x = new CountedUnit();
        x.allocate(0, 1);
        CHECKS.due("all but two", x.allocate(1, 30), 1);
        x.scratch(0);
        CHECKS.due("0 and 31 do not stand side by side", x.allocate(2, 2), 2);
        tracksDue(x, 2, 0, 31);
    }

    private static void fourExtents() {
        int[][] tracksAndExtents = {{1, 1}, {2, 2}, {3, 3}, {4, 4}, {5, 4}, {28, 4}, {29, 4}};
        for (int[] row : tracksAndExtents) {
            CountedUnit x = fourHoles();
            CHECKS.due(row[0] + " tracks", x.allocate(0, row[0]), row[1]);
            CHECKS.due("free", x.free(), 29 - row[0]);
        }
        CHECKS.state("30 tracks", () -> fourHoles().allocate(0, 30));
    }

    private static void fiveExtents() {
        for (int tracks = 1; tracks <= 4; tracks++) {
            CHECKS.due(tracks + " tracks", fiveHoles().allocate(0, tracks), tracks);
        }
        for (int tracks : new int[] {5, 6, 27, 28, 29, 32}) {
            CountedUnit x = fiveHoles();
            CHECKS.state(tracks + " tracks", () -> x.allocate(0, tracks));
            CHECKS.due("free", x.free(), 28);
        }
    }

    private static void tooFewTracks() {
        CountedUnit x = new CountedUnit();
        x.allocate(0, 30);
        CHECKS.state("three of two", () -> x.allocate(1, 3));
        CHECKS.state("32 of two", () -> x.allocate(1, 32));
        CHECKS.due("two of two", x.allocate(1, 2), 1);
        tracksDue(x, 1, 30, 31);
        CHECKS.state("one of none", () -> x.allocate(2, 1));
        x.scratch(1);
        CHECKS.due("one of two", x.allocate(1, 1), 1);
        CHECKS.state("two of one", () -> x.allocate(2, 2));
        CHECKS.due("one of one", x.allocate(2, 1), 1);
        tracksDue(x, 2, 31);
    }

    private static void recordsAreGone() {
        Bench b = new Bench();
        for (int track = 0; track < 4; track++) {
            b.lay(track, 1, 1, 1, 1);
        }
        b.unit.allocate(0, 1);
        CHECKS.due("of track 0", b.unit.record(0, 0, 0), 0);
        CHECKS.due("not of track 1", b.unit.record(1, 0, 0), 2);
        b.unit.allocate(1, 2);
        CHECKS.due("of track 1", b.unit.record(1, 0, 0), 0);
        CHECKS.due("of track 2", b.unit.record(2, 0, 0), 0);
        CHECKS.due("not of track 3", b.unit.record(3, 0, 0), 2);
        b.lay(1, 1, 1);
        b.unit.allocate(2, 1);
        CHECKS.due("not of a track of another", b.unit.record(1, 0, 0), 1);
        CHECKS.due("of track 3", b.unit.record(3, 0, 0), 0);
    }

    private static void lastTracksRecords() {
        for (int tracks = 31; tracks <= 32; tracks++) {
            Bench b = new Bench();
            b.lay(31, 1, 1);
            b.unit.allocate(0, tracks);
            CHECKS.due("track 31 behind " + tracks, b.unit.record(31, 0, 0), tracks == 32 ? 0 : 1);
        }
    }

    private static void trackByNumber() {
        CountedUnit x = fourHoles();
        x.allocate(0, 29);
        int[] first = {0, 2, 4, 6, 7, 8};
        for (int j = 0; j < 6; j++) {
            CHECKS.due("track " + j, x.trackOf(0, j), first[j]);
        }
        for (int j = 6; j < 29; j++) {
            CHECKS.due("track " + j, x.trackOf(0, j), j + 3);
        }
        CHECKS.argument("track 29", () -> x.trackOf(0, 29));
    }

    private static void oneAndAll() {
        CountedUnit x = new CountedUnit();
        CHECKS.due("one", x.allocate(0, 1), 1);
        tracksDue(x, 0, 0);
        CHECKS.due("the rest", x.allocate(5, 31), 1);
        CHECKS.due("the last one", x.trackOf(5, 30), 31);
        CountedUnit y = new CountedUnit();
        CHECKS.due("all", y.allocate(3, 32), 1);
        CHECKS.due("how many", y.trackOf(3, -1), 32);
        CHECKS.due("the last one", y.trackOf(3, 31), 31);
        CHECKS.argument("0", () -> new CountedUnit().allocate(0, 0));
        CHECKS.argument("33", () -> new CountedUnit().allocate(0, 33));
    }

    private static void noSuchSetOrNumber() {
        CountedUnit x = new CountedUnit();
        x.allocate(1, 2);
        for (int set : NO_SETS) {
            CHECKS.argument("set " + set, () -> x.allocate(set, 1));
            CHECKS.argument("set " + set + " and no such number", () -> x.allocate(set, 0));
        }
        for (int tracks : new int[] {-1, 0, 33, 34, Integer.MIN_VALUE, Integer.MAX_VALUE}) {
            CHECKS.argument(tracks + " tracks", () -> x.allocate(0, tracks));
            CHECKS.argument(tracks + " tracks for one that is allocated", () -> x.allocate(1, tracks));
        }
        CHECKS.due("free", x.free(), 30);
        CHECKS.due("none", x.trackOf(0, -1), 0);
    }

    private static void isAllocated() {
        CountedUnit x = new CountedUnit();
        x.allocate(0, 3);
        for (int tracks : new int[] {1, 3, 29, 30, 32}) {
            CHECKS.state(tracks + " tracks", () -> x.allocate(0, tracks));
        }
        tracksDue(x, 0, 0, 1, 2);
        CHECKS.due("free", x.free(), 29);
        x.scratch(0);
        CHECKS.due("behind scratch", x.allocate(0, 1), 1);
    }

    private static void allStays() {
        Bench b = new Bench();
        b.lay(0, 1, 1);
        b.lay(1, 1, 1, 1, 1);
        b.unit.allocate(0, 1);
        b.unit.store(0, 7, 0);
        CHECKS.state("too few", () -> b.unit.allocate(1, 32));
        CHECKS.state("it is allocated", () -> b.unit.allocate(0, 1));
        CHECKS.due("records of a free track", b.unit.record(1, 0, 0), 2);
        CHECKS.due("records of its track", b.unit.record(0, 0, 0), 1);
        CHECKS.due("free", b.unit.free(), 31);
        CHECKS.due("not allocated", b.unit.trackOf(1, -1), 0);
        CountedUnit x = fiveHoles();
        CHECKS.state("five extents", () -> x.allocate(0, 5));
        CHECKS.due("free", x.free(), 28);
        CHECKS.due("not allocated", x.trackOf(0, -1), 0);
        tracksDue(x, 1, 1);
        tracksDue(x, 2, 7);
        CHECKS.due("four as before", x.allocate(0, 4), 4);
        tracksDue(x, 0, 0, 2, 4, 6);
    }

    private static void scratched() {
        Bench b = new Bench();
        b.unit.allocate(0, 2);
        b.unit.allocate(5, 2);
        b.unit.store(0, 6, 3);
        b.unit.store(5, 7, 4);
        b.unit.scratch(0);
        CHECKS.due("free", b.unit.free(), 30);
        CHECKS.due("it has none", b.unit.trackOf(0, -1), 0);
        CHECKS.due("the other one's", b.unit.trackOf(5, 0), 2);
        CHECKS.due("its record stays", b.unit.record(0, 1, 2), 3);
        CHECKS.due("and its bytes", b.unit.byteOf(0, 1, 3), 6);
        CHECKS.due("a program finds it", b.runAt(0, Bench.READ_COUNT, 100, 0), 0);
        b.unit.scratch(5);
        CHECKS.due("free", b.unit.free(), 32);
        CHECKS.due("the other one's record", b.unit.record(3, 1, 2), 4);
        b.unit.allocate(1, 32);
        CHECKS.due("gone when they are allocated", b.unit.record(3, 0, 0) + b.unit.record(0, 0, 0), 0);
    }

    private static void scratchOfNone() {
        CountedUnit x = new CountedUnit();
        x.allocate(0, 1);
        x.allocate(5, 1);
        for (int set : NO_SETS) {
            CHECKS.argumentOf("scratch " + set, () -> x.scratch(set));
        }
        CHECKS.due("free", x.free(), 30);
    }

    private static void scratchNotAllocated() {
        CountedUnit x = new CountedUnit();
        x.allocate(1, 1);
        for (int set : new int[] {0, 2, 5}) {
            CHECKS.stateOf("scratch " + set, () -> x.scratch(set));
        }
        x.scratch(1);
        CHECKS.stateOf("scratch again", () -> x.scratch(1));
        CHECKS.due("free", x.free(), 32);
    }

    private static void howMany() {
        CountedUnit x = new CountedUnit();
        for (int set = 0; set < 6; set++) {
            CHECKS.due("not allocated " + set, x.trackOf(set, -1), 0);
        }
        x.allocate(5, 1);
        CHECKS.due("one", x.trackOf(5, -1), 1);
        CHECKS.due("the others", x.trackOf(0, -1) + x.trackOf(4, -1), 0);
        x.scratch(5);
        CHECKS.due("scratched", x.trackOf(5, -1), 0);
        x.allocate(5, 32);
        CHECKS.due("all", x.trackOf(5, -1), 32);
    }

    private static void noSuchSetOrTrack() {
        CountedUnit x = new CountedUnit();
        x.allocate(0, 3);
        for (int set : NO_SETS) {
            CHECKS.argument("set " + set, () -> x.trackOf(set, 0));
            CHECKS.argument("how many of set " + set, () -> x.trackOf(set, -1));
        }
        for (int j : new int[] {-2, 3, 4, 32, Integer.MIN_VALUE, Integer.MAX_VALUE}) {
            CHECKS.argument("track " + j, () -> x.trackOf(0, j));
        }
        CHECKS.due("first", x.trackOf(0, 0), 0);
        CHECKS.due("last", x.trackOf(0, 2), 2);
        CHECKS.argument("track 0 of one that is not allocated", () -> x.trackOf(1, 0));
        x.scratch(0);
        CHECKS.argument("track 0 behind scratch", () -> x.trackOf(0, 0));
    }

    private static void freeTracks() {
        CountedUnit x = new CountedUnit();
        CHECKS.due("all", x.free(), 32);
        x.allocate(0, 1);
        CHECKS.due("all but one", x.free(), 31);
        x.allocate(1, 30);
        CHECKS.due("one", x.free(), 1);
        x.allocate(2, 1);
        CHECKS.due("none", x.free(), 0);
        x.scratch(1);
        CHECKS.due("thirty", x.free(), 30);
    }
}
