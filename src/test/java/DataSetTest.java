/** Promises 11 to 14: allocate, scratch, trackOf and free. */
public final class DataSetTest {
    private static final Checks CHECKS = new Checks();

    public static void main(String[] args) {
        allTracks();
        lowestTracks();
        refused();
        recordsGo();
        wrongNumbers();
        CHECKS.finish();
    }

    private static void allTracks() {
        CountedUnit x = new CountedUnit();
        CHECKS.due("all 32", x.allocate(5, 32), 1);
        CHECKS.due("free", x.free(), 0);
        for (int j = 0; j < 32; j++) {
            CHECKS.due("track " + j, x.trackOf(5, j), j);
        }
        CHECKS.state("none is left", () -> x.allocate(0, 1));
        CHECKS.due("none came", x.trackOf(0, -1), 0);
        x.scratch(5);
        CHECKS.due("free again", x.free(), 32);
        CHECKS.due("not allocated", x.trackOf(5, -1), 0);
        CHECKS.due("one", x.allocate(0, 1), 1);
    }

    /** Six sets of a track each, then every second one is free. */
    private static CountedUnit combed() {
        CountedUnit x = new CountedUnit();
        for (int set = 0; set < 6; set++) {
            CHECKS.due("set " + set, x.allocate(set, 1), 1);
        }
        x.scratch(0);
        x.scratch(2);
        x.scratch(4);
        return x;
    }

    private static void lowestTracks() {
        CountedUnit x = combed();
        CHECKS.due("free", x.free(), 29);
        CHECKS.due("four extents", x.allocate(0, 6), 4);
        int[] due = {0, 2, 4, 6, 7, 8};
        for (int j = 0; j < 6; j++) {
            CHECKS.due("track " + j, x.trackOf(0, j), due[j]);
        }
        CHECKS.due("how many", x.trackOf(0, -1), 6);
        CHECKS.due("free", x.free(), 23);
        CHECKS.due("behind it", x.allocate(2, 2), 1);
        CHECKS.due("track", x.trackOf(2, 1), 10);
        x.scratch(0);
        CHECKS.due("two of them", x.allocate(4, 2), 2);
        CHECKS.due("track", x.trackOf(4, 1), 2);
    }

    private static void refused() {
        CountedUnit x = combed();
        x.scratch(5);
        x.allocate(0, 1);
        x.allocate(2, 3);
        x.allocate(4, 1);
        x.allocate(5, 1);
        // Now 0: track 0; 1: 1; 2: tracks 2, 4, 5; 3: 3; 4: 6; 5: 7.
        CHECKS.due("track of 2", x.trackOf(2, 1), 4);
        x.scratch(0);
        x.scratch(2);
        x.scratch(4);
        CHECKS.due("tracks 0, 2, 4 to 6", x.allocate(0, 5), 3);
        x.scratch(0);
        CHECKS.state("too few", () -> x.allocate(0, 30));
        CHECKS.due("all but three", x.allocate(0, 29), 4);
        CHECKS.due("free", x.free(), 0);
        CHECKS.state("allocated", () -> x.allocate(0, 1));
        tooManyExtents();
    }

    private static void tooManyExtents() {
        CountedUnit x = new CountedUnit();
        // A hole is left at each of tracks 0, 2, 4, 6 by sets that are laid twice.
        x.allocate(0, 1);
        x.allocate(1, 1);
        x.allocate(2, 1);
        x.allocate(3, 1);
        x.allocate(4, 1);
        x.scratch(0);
        x.scratch(2);
        x.scratch(4);
        x.allocate(0, 4);
        x.allocate(2, 1);
        // Now 0: tracks 0, 2, 4, 5; 1: 1; 2: 6; 3: 3.
        x.allocate(4, 1);
        x.scratch(2);
        x.allocate(2, 2);
        // Now 2: tracks 6, 8; 4: 7.
        x.allocate(5, 1);
        x.scratch(2);
        x.scratch(0);
        // Free: 0, 2, 4 to 6, 8, and from 10 on.
        CHECKS.due("free", x.free(), 28);
        CHECKS.state("five extents", () -> x.allocate(0, 7));
        CHECKS.due("all stays", x.free(), 28);
        CHECKS.due("all stays", x.trackOf(0, -1), 0);
        CHECKS.state("far too many tracks", () -> x.allocate(0, 28));
        CHECKS.due("four extents", x.allocate(0, 6), 4);
        CHECKS.due("the rest", x.allocate(2, 22), 1);
    }

    private static void recordsGo() {
        Bench b = new Bench();
        b.lay(0, 1, 1);
        b.lay(1, 1, 1);
        b.lay(2, 1, 1);
        long before = b.unit.clock();
        b.unit.allocate(0, 2);
        CHECKS.due("gone", b.unit.record(0, 0, 0) + b.unit.record(1, 0, 0), 0);
        CHECKS.due("not its track", b.unit.record(2, 0, 0), 1);
        b.unit.store(0, 0, 1);
        b.unit.scratch(0);
        CHECKS.due("scratch lets them stay", b.unit.record(0, 0, 0), 1);
        b.unit.allocate(1, 3);
        CHECKS.due("gone", b.unit.record(0, 0, 0) + b.unit.record(2, 0, 0), 0);
        CHECKS.due("no time", b.unit.clock(), before);
        b.lay(2, 1, 1);
        CHECKS.state("refused", () -> b.unit.allocate(2, 32));
        CHECKS.state("allocated", () -> b.unit.allocate(1, 1));
        CHECKS.due("records stay", b.unit.record(2, 0, 0), 1);
    }

    private static void wrongNumbers() {
        CountedUnit x = new CountedUnit();
        x.allocate(1, 3);
        for (int set : new int[] {-1, 6, Integer.MIN_VALUE, Integer.MAX_VALUE}) {
            CHECKS.argument("allocate " + set, () -> x.allocate(set, 1));
            CHECKS.argument("scratch " + set, () -> scratch(x, set));
            CHECKS.argument("trackOf " + set, () -> x.trackOf(set, -1));
        }
        for (int tracks : new int[] {-1, 0, 33, Integer.MIN_VALUE, Integer.MAX_VALUE}) {
            CHECKS.argument("so many tracks: " + tracks, () -> x.allocate(0, tracks));
            CHECKS.argument("also if it is allocated", () -> x.allocate(1, tracks));
        }
        for (int j : new int[] {-2, 3, Integer.MIN_VALUE, Integer.MAX_VALUE}) {
            CHECKS.argument("track " + j, () -> x.trackOf(1, j));
        }
        CHECKS.argument("a track of none", () -> x.trackOf(0, 0));
        CHECKS.state("scratch what is not", () -> scratch(x, 0));
        x.scratch(1);
        CHECKS.state("scratch again", () -> scratch(x, 1));
    }

    private static long scratch(CountedUnit x, int set) {
        x.scratch(set);
        return 0;
    }
}
