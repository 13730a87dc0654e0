/** Promises 15 and 16: store and fetch. */
public final class KeyedTest {
    private static final Checks CHECKS = new Checks();

    public static void main(String[] args) {
        layout();
        homes();
        overflow();
        firstThatHasRoom();
        fewTracks();
        inPlace();
        otherLength();
        lookedForInOrder();
        fetching();
        refused();
        roomToTheEnd();
        CHECKS.finish();
    }

    private static void layout() {
        Bench b = new Bench();
        b.unit.allocate(0, 1);
        b.bytes(0, 5, 6, 7);
        CHECKS.due("track", b.unit.store(0, 0x81020304, 3), 0);
        int[] due = {0x81, 2, 3, 4, 5, 6, 7};
        for (int i = 0; i < 7; i++) {
            CHECKS.due("byte " + i, b.unit.byteOf(0, 1, i), due[i]);
        }
        CHECKS.due("key", b.unit.record(0, 1, 1), 4);
        CHECKS.due("data", b.unit.record(0, 1, 2), 3);
        CHECKS.due("no time", b.unit.clock(), 0);
        CHECKS.due("no transfer", b.unit.look(5), 0);
        CHECKS.due("another behind it", b.unit.store(0, 1, 0), 0);
        CHECKS.due("begins", b.unit.record(0, 2, 0), 27);
        b.bytes(10, 0x81, 2, 3, 4);
        CHECKS.due("a program finds it", b.run(Bench.KEY, 10, 4, Bench.BACK, 0, 0, Bench.READ_DATA, 20, 3), 0);
        CHECKS.due("its data", b.unit.peek(22), 7);
    }

    private static void homes() {
        CountedUnit x = new CountedUnit();
        x.allocate(0, 2);
        x.allocate(1, 7);
        int[][] rows = {{0, 0}, {6, 6}, {7, 0}, {12345, 4}, {-1, 3}, {Integer.MIN_VALUE, 2}, {Integer.MAX_VALUE, 1}};
        for (int[] row : rows) {
            CHECKS.due("home of " + row[0], x.store(1, row[0], 1), 2 + row[1]);
        }
    }

    /** Fills the track with records of 84 places: seven of them. */
    private static void fill(CountedUnit x, int set, int firstKey, int step, int track) {
        for (int i = 0; i < 7; i++) {
            CHECKS.due("fill", x.store(set, firstKey + i * step, 60), track);
        }
    }

    private static void overflow() {
        CountedUnit x = new CountedUnit();
        x.allocate(0, 6);
        for (int i = 0; i < 4; i++) {
            fill(x, 0, 4 + 42 * i, 6, (4 + i) % 6);
        }
        CHECKS.state("none of the four has room", () -> x.store(0, 4 + 6 * 28, 60));
        CHECKS.due("home is free", x.store(0, 2, 60), 2);
        CHECKS.due("next one", x.store(0, 1 + 600, 60), 2);
        CHECKS.due("stored far from home", x.fetch(0, 4 + 6 * 27), 60);
        CHECKS.due("again, in its place", x.store(0, 4 + 6 * 27, 60), 1);
    }

    private static void firstThatHasRoom() {
        CountedUnit x = new CountedUnit();
        x.allocate(0, 5);
        for (int i = 0; i < 6; i++) {
            x.store(0, 5 * i, 60);
        }
        CHECKS.due("64 places", x.store(0, 100, 40), 0);
        CHECKS.due("33 places do not fit in 32", x.store(0, 105, 9), 1);
        CHECKS.due("32 places do", x.store(0, 110, 8), 0);
        CHECKS.due("where it overflowed to", x.store(0, 105, 9), 1);
    }

    private static void fewTracks() {
        CountedUnit x = new CountedUnit();
        x.allocate(0, 1);
        x.allocate(1, 2);
        fill(x, 0, 0, 1, 0);
        CHECKS.state("one track is full", () -> x.store(0, 99, 60));
        fill(x, 1, 1, 2, 2);
        fill(x, 1, 101, 2, 1);
        CHECKS.state("two are full", () -> x.store(1, 999, 60));
        CHECKS.state("from the other one, too", () -> x.store(1, 998, 60));
        CHECKS.due("no more came", x.record(1, 0, 0) + x.record(2, 0, 0), 14);
        CHECKS.due("none there", x.fetch(1, 999), -1);
    }

    private static void inPlace() {
        CountedUnit x = new CountedUnit();
        x.allocate(0, 3);
        x.poke(0, 1);
        x.store(0, 3, 2);
        x.store(0, 6, 2);
        x.spoil(0, 1);
        x.poke(0, 77);
        x.poke(1, 78);
        CHECKS.due("again", x.store(0, 3, 2), 0);
        CHECKS.due("records", x.record(0, 0, 0), 2);
        CHECKS.due("spoiled no more", x.record(0, 1, 3), 0);
        CHECKS.due("data", x.byteOf(0, 1, 4), 77);
        CHECKS.due("data", x.byteOf(0, 1, 5), 78);
        CHECKS.due("the other one stays", x.byteOf(0, 2, 4), 1);
        CHECKS.due("the other one's key", x.byteOf(0, 2, 3), 6);
    }

    private static void otherLength() {
        CountedUnit x = new CountedUnit();
        x.allocate(0, 3);
        x.store(0, 3, 2);
        x.spoil(0, 1);
        x.poke(0, 9);
        for (int n : new int[] {0, 1, 3, 60}) {
            CHECKS.state("other length " + n, () -> x.store(0, 3, n));
        }
        CHECKS.due("still spoiled", x.record(0, 1, 3), 1);
        CHECKS.due("data stay", x.byteOf(0, 1, 4), 0);
        CHECKS.due("records", x.record(0, 0, 0), 1);
    }

    /** Records of programs count as keyed ones if their key has four bytes. */
    private static void lookedForInOrder() {
        Bench b = new Bench();
        b.unit.allocate(0, 5);
        b.bytes(0, 4, 1, 0, 0, 0, 7, 50);
        b.run(Bench.SEEK, 3, 0, Bench.WRITE_RECORD, 0, 0);
        CHECKS.due("on the next one", b.unit.fetch(0, 7), 1);
        CHECKS.due("its data", b.unit.peek(0), 50);
        CHECKS.due("stored where it is", b.unit.store(0, 7, 1), 3);
        b.bytes(0, 4, 2, 0, 0, 0, 7, 60, 61);
        b.run(Bench.SEEK, 2, 0, Bench.WRITE_RECORD, 0, 0);
        CHECKS.due("home before the next one", b.unit.fetch(0, 7), 2);
        b.bytes(0, 4, 1, 0, 0, 0, 8, 60);
        b.run(Bench.SEEK, 2, 0, Bench.WRITE_RECORD, 0, 0);
        CHECKS.due("before its home", b.unit.fetch(0, 8), -1);
        b.run(Bench.SEEK, 1, 0, Bench.WRITE_RECORD, 0, 0);
        CHECKS.due("three behind its home, around", b.unit.fetch(0, 8), 1);
        b.bytes(0, 5, 1, 0, 0, 0, 9, 0, 60);
        b.run(Bench.SEEK, 4, 0, Bench.WRITE_RECORD, 0, 0);
        b.bytes(0, 3, 1, 0, 0, 0, 9);
        b.run(Bench.READ_DATA, 100, 60, Bench.WRITE_RECORD, 0, 0);
        CHECKS.due("keys of other lengths", b.unit.fetch(0, 9), -1);
        firstOfTheSame(b);
    }

    private static void firstOfTheSame(Bench b) {
        b.bytes(0, 4, 1, 0, 0, 0, 4, 1, 4, 2, 0, 0, 0, 4, 2, 3);
        b.run(Bench.SEEK, 4, 0, Bench.WRITE_RECORD, 0, 0, Bench.WRITE_RECORD, 7, 0);
        CHECKS.due("the first one", b.unit.fetch(0, 4), 1);
        CHECKS.state("the first one has one byte", () -> b.unit.store(0, 4, 2));
    }

    private static void fetching() {
        Bench b = new Bench();
        b.unit.allocate(0, 4);
        b.bytes(0, 1, 2, 3);
        b.unit.store(0, -5, 3);
        b.unit.store(0, 8, 0);
        b.bytes(0, 9, 9, 9, 9);
        CHECKS.due("none", b.unit.fetch(0, 5), -1);
        CHECKS.due("no data", b.unit.fetch(0, 8), 0);
        b.unit.spoil(3, 1);
        CHECKS.due("spoiled", b.unit.fetch(0, -5), -2);
        for (int i = 0; i < 4; i++) {
            CHECKS.due("memory stays", b.unit.peek(i), 9);
        }
        b.bytes(0, 1, 2, 3);
        b.unit.store(0, -5, 3);
        b.bytes(0, 9, 9, 9);
        CHECKS.due("three bytes", b.unit.fetch(0, -5), 3);
        for (int i = 0; i < 4; i++) {
            CHECKS.due("data", b.unit.peek(i), i < 3 ? i + 1 : 9);
        }
        CHECKS.due("no time", b.unit.clock(), 0);
        b.unit.scratch(0);
        b.unit.allocate(0, 4);
        CHECKS.due("gone with the data set", b.unit.fetch(0, -5), -1);
    }

    private static void refused() {
        CountedUnit x = new CountedUnit();
        x.allocate(1, 1);
        for (int set : new int[] {-1, 6, Integer.MIN_VALUE, Integer.MAX_VALUE}) {
            CHECKS.argument("store in " + set, () -> x.store(set, 0, 0));
            CHECKS.argument("fetch from " + set, () -> x.fetch(set, 0));
        }
        for (int n : new int[] {-1, 61, Integer.MIN_VALUE, Integer.MAX_VALUE}) {
            CHECKS.argument("so many bytes: " + n, () -> x.store(1, 0, n));
            CHECKS.argument("also if it is not allocated", () -> x.store(0, 0, n));
        }
        CHECKS.state("store where none is allocated", () -> x.store(0, 0, 0));
        CHECKS.state("fetch where none is allocated", () -> x.fetch(0, 0));
        x.scratch(1);
        CHECKS.state("store behind scratch", () -> x.store(1, 0, 0));
        CHECKS.state("fetch behind scratch", () -> x.fetch(1, 0));
    }

    private static void roomToTheEnd() {
        CountedUnit x = new CountedUnit();
        x.allocate(0, 1);
        for (int key = 0; key < 25; key++) {
            CHECKS.due("24 places each", x.store(0, key, 0), 0);
        }
        CHECKS.state("full", () -> x.store(0, 25, 0));
        CountedUnit y = new CountedUnit();
        y.allocate(0, 1);
        fill(y, 0, 0, 1, 0);
        // 588 places are taken: 12 are left, and a record takes 24.
        CHECKS.state("no room", () -> y.store(0, 7, 0));
        CountedUnit z = new CountedUnit();
        z.allocate(0, 1);
        for (int key = 0; key < 6; key++) {
            z.store(0, key, 60);
        }
        // 504 places are taken: 96 are left.
        z.store(0, 6, 30);
        CHECKS.state("one place too much", () -> z.store(0, 7, 19));
        CHECKS.due("just the room", z.store(0, 7, 18), 0);
    }
}
