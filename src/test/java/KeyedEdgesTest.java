/** The edges that the document names in promises 15 and 16: store and fetch. */
public final class KeyedEdgesTest {
    private static final Checks CHECKS = new Checks();
    private static final int LEAST = Integer.MIN_VALUE;
    private static final int MOST = Integer.MAX_VALUE;
    private static final int[] NO_SETS = {-1, 6, 7, LEAST, MOST};

    public static void main(String[] args) {
        Sentences sentences = new Sentences(CHECKS);
        sentences.of("Terms", "KEYED RECORDS have a key of 4 bytes (an int, highest byte first) and data",
            KeyedEdgesTest::keyBytes, KeyedEdgesTest::keysOfOtherLengths, KeyedEdgesTest::keysThatDifferInAByte);
        sentences.of("Terms", "the HOME of a key is the data set's track (key without a sign) modulo their number",
            KeyedEdgesTest::homes);
        sentences.of("Terms", "a record stands there or on the next one, two, three (around; each track once)",
            KeyedEdgesTest::nextThree, KeyedEdgesTest::fewTracks);
        sentences.of("Terms", "It is looked for on these in order, on each from the first record on",
            KeyedEdgesTest::lookedForInOrder, KeyedEdgesTest::firstOfTheSame);
        sentences.of("Terms", "a new one is laid behind the records of the first of these that has room",
            KeyedEdgesTest::firstThatHasRoom, KeyedEdgesTest::behindTheRecords);
        sentences.of("Terms", "All that takes no time.", KeyedEdgesTest::noTime);
        sentences.of("Promise 15:", "Stores a keyed record with the memory's first n bytes (0 .. 60) as data",
            KeyedEdgesTest::firstBytes);
        sentences.of("Promise 15:", "in place of one that there is with the key when its data are as long (it is"
            + " spoiled no more): the track.", KeyedEdgesTest::inPlace, KeyedEdgesTest::inPlaceFarFromHome);
        sentences.of("Promise 15:", "IllegalArgumentException: no such data set, or n is not so",
            KeyedEdgesTest::noSuchSetOrLength);
        sentences.of("Promise 15:", "IllegalStateException: it is not allocated", KeyedEdgesTest::storeNotAllocated);
        sentences.of("Promise 15:", "there is one with other length", KeyedEdgesTest::otherLength);
        sentences.of("Promise 15:", "or no room.", KeyedEdgesTest::noRoom, KeyedEdgesTest::noRoomByOnePlace);
        sentences.of("Promise 16:", "Fetches its data to the memory's beginning: how many bytes",
            KeyedEdgesTest::fetched);
        sentences.of("Promise 16:", "-1 there is none, -2 it is spoiled (the memory stays in both cases).",
            KeyedEdgesTest::noneAndSpoiled);
        sentences.of("Promise 16:", "IllegalArgumentException: no such data set", KeyedEdgesTest::fetchNoSuchSet);
        sentences.of("Promise 16:", "IllegalStateException: it is not allocated.", KeyedEdgesTest::fetchNotAllocated);
        sentences.finish();
    }

    private static void keyBytes() {
        int[][] rows = {{0x01020304, 1, 2, 3, 4}, {0, 0, 0, 0, 0}, {-1, 255, 255, 255, 255}, {LEAST, 128, 0, 0, 0},
            {MOST, 127, 255, 255, 255}, {0x8000FF, 0, 128, 0, 255}};
        for (int[] row : rows) {
            CountedUnit x = new CountedUnit();
            x.allocate(0, 1);
            x.poke(0, 77);
            x.store(0, row[0], 1);
            CHECKS.due("key's length", x.record(0, 1, 1), 4);
            for (int i = 0; i < 4; i++) {
                CHECKS.due("byte " + i + " of " + row[0], x.byteOf(0, 1, i), row[1 + i]);
            }
            CHECKS.due("data of " + row[0], x.byteOf(0, 1, 4), 77);
            CHECKS.due("found again", x.fetch(0, row[0]), 1);
        }
    }

    /** Records of programs are keyed ones if their key has four bytes. */
    private static void keysOfOtherLengths() {
        int[][] lengthAndAnswer = {{0, -1}, {3, -1}, {4, 2}, {5, -1}, {8, -1}};
        for (int[] row : lengthAndAnswer) {
            Bench b = new Bench();
            b.unit.allocate(0, 1);
            b.bytes(100, row[0], 2);
            b.run(Bench.WRITE_RECORD, 100, 0);
            CHECKS.due("a key of " + row[0] + " bytes 0", b.unit.fetch(0, 0), row[1]);
        }
    }

    private static void keysThatDifferInAByte() {
        CountedUnit x = new CountedUnit();
        x.allocate(0, 1);
        x.store(0, 0x10203040, 5);
        for (int shift = 0; shift < 32; shift += 8) {
            CHECKS.due("one more", x.fetch(0, 0x10203040 + (1 << shift)), -1);
            CHECKS.due("one less", x.fetch(0, 0x10203040 - (1 << shift)), -1);
            CHECKS.due("highest bit", x.fetch(0, 0x10203040 ^ 128 << shift), -1);
        }
        CHECKS.due("the same", x.fetch(0, 0x10203040), 5);
    }

    private static void homes() {
        int[][] tracksKeyHome = {{1, 0, 0}, {1, -1, 0}, {1, MOST, 0}, {7, 0, 0}, {7, 6, 6}, {7, 7, 0}, {7, 8, 1},
            {7, -1, 3}, {7, -2, 2}, {7, LEAST, 2}, {7, MOST, 1}, {3, -1, 0}, {3, -2, 2}, {3, LEAST, 2}, {24, -1, 15},
            {24, LEAST, 8}, {24, 24, 0}, {24, 23, 23}};
        for (int[] row : tracksKeyHome) {
            CountedUnit x = new CountedUnit();
            x.allocate(0, 5);
            x.allocate(1, row[0]);
            CHECKS.due("home of " + row[1] + " of " + row[0], x.store(1, row[1], 1), 5 + row[2]);
        }
        CountedUnit all = new CountedUnit();
        all.allocate(0, 32);
        CHECKS.due("home of -1 of 32", all.store(0, -1, 1), 31);
        CHECKS.due("home of 31 of 32", all.store(0, 31, 2), 31);
        CHECKS.due("home of 32 of 32", all.store(0, 32, 1), 0);
        CountedUnit apart = new CountedUnit();
        apart.allocate(0, 1);
        apart.allocate(1, 2);
        apart.scratch(0);
        apart.allocate(2, 3);
        int[] tracks = {0, 3, 4};
        for (int key = 0; key < 6; key++) {
            CHECKS.due("in extents, key " + key, apart.store(2, key, 1), tracks[key % 3]);
        }
    }

    /** Stores so many keys of the same home; seven of 60 bytes fill a track. */
    private static int storeSevens(CountedUnit x, int home, int tracks, int sevens, int... due) {
        int key = home;
        for (int i = 0; i < 7 * sevens; i++) {
            CHECKS.due("key " + key, x.store(0, key, 60), due[i / 7]);
            key += tracks;
        }
        return key;
    }

    private static void nextThree() {
        int[][] homeAndTracks = {{0, 0, 1, 2, 3}, {2, 2, 3, 4, 5}, {3, 3, 4, 5, 0}, {4, 4, 5, 0, 1}, {5, 5, 0, 1, 2}};
        for (int[] row : homeAndTracks) {
            CountedUnit x = new CountedUnit();
            x.allocate(0, 6);
            int key = storeSevens(x, row[0], 6, 4, row[1], row[2], row[3], row[4]);
            CHECKS.state("the fourth next one is empty, but too far", () -> x.store(0, key, 60));
            CHECKS.due("nor is it found", x.fetch(0, key), -1);
            CHECKS.due("the last of the third next one is", x.fetch(0, key - 6), 60);
            CHECKS.due("the first one is", x.fetch(0, row[0]), 60);
        }
    }

    private static void fewTracks() {
        int[][] tracks = {{0}, {1, 0}, {2, 0, 1}, {3, 0, 1, 2}, {4, 0, 1, 2}};
        for (int i = 0; i < tracks.length; i++) {
            int size = i + 1;
            CountedUnit x = new CountedUnit();
            x.allocate(0, size);
            int key = storeSevens(x, size - 1, size, tracks[i].length, tracks[i]);
            CHECKS.state("no room on " + size, () -> x.store(0, key, 60));
            CHECKS.due("none on " + size, x.fetch(0, key), -1);
            CHECKS.due("the last one on " + size, x.fetch(0, key - size), 60);
        }
    }

    /** The key 7 of a data set of five tracks, on each of them: home is track 2. */
    private static void lookedForInOrder() {
        Bench b = new Bench();
        b.unit.allocate(0, 5);
        for (int track = 0; track < 5; track++) {
            b.bytes(100, 4, 10 + track, 0, 0, 0, 7);
            b.run(Bench.SEEK, track, 0, Bench.WRITE_RECORD, 100, 0);
        }
        for (int track : new int[] {2, 3, 4, 0}) {
            CHECKS.due("on track " + track, b.unit.fetch(0, 7), 10 + track);
            CHECKS.due("stored on track " + track, b.unit.store(0, 7, 10 + track), track);
            b.run(Bench.SEEK, track, 0, Bench.ERASE, 0, 0);
        }
        CHECKS.due("on track 1 there is one, but too far", b.unit.record(1, 0, 0), 1);
        CHECKS.due("it is not found", b.unit.fetch(0, 7), -1);
        CHECKS.due("a new one is laid", b.unit.store(0, 7, 11), 2);
    }

    private static void firstOfTheSame() {
        Bench b = new Bench();
        b.unit.allocate(0, 1);
        b.bytes(100, 4, 1, 0, 0, 0, 8, 0, 4, 2, 0, 0, 0, 7, 0, 0, 4, 3, 0, 0, 0, 7);
        b.run(Bench.WRITE_RECORD, 100, 0, Bench.WRITE_RECORD, 107, 0, Bench.WRITE_RECORD, 115, 0);
        CHECKS.due("records", b.unit.record(0, 0, 0), 3);
        CHECKS.due("the first one with the key", b.unit.fetch(0, 7), 2);
        CHECKS.state("its length counts", () -> b.unit.store(0, 7, 3));
        b.unit.spoil(0, 3);
        CHECKS.due("the later one does not matter", b.unit.fetch(0, 7), 2);
        b.unit.spoil(0, 2);
        CHECKS.due("the first one does", b.unit.fetch(0, 7), -2);
        CHECKS.due("stored in its place", b.unit.store(0, 7, 2), 0);
        CHECKS.due("the later one is still spoiled", b.unit.record(0, 3, 3), 1);
    }

    /** Six of 84 places leave 96 of the home track. */
    private static CountedUnit homeWith96() {
        CountedUnit x = new CountedUnit();
        x.allocate(0, 5);
        for (int i = 0; i < 6; i++) {
            x.store(0, 5 * i, 60);
        }
        return x;
    }

    private static void firstThatHasRoom() {
        CountedUnit x = homeWith96();
        CHECKS.due("64 of 96 places", x.store(0, 100, 40), 0);
        CHECKS.due("33 of 32 places", x.store(0, 105, 9), 1);
        CHECKS.due("32 of 32 places", x.store(0, 110, 8), 0);
        CHECKS.due("24 of none", x.store(0, 115, 0), 1);
        CHECKS.due("another home", x.store(0, 116, 0), 1);
        CHECKS.due("it is where it was laid", x.store(0, 105, 9), 1);
    }

    private static void behindTheRecords() {
        CountedUnit x = homeWith96();
        x.store(0, 100, 40);
        CHECKS.due("number", x.record(0, 0, 0), 7);
        CHECKS.due("beginning", x.record(0, 7, 0), 504);
        CHECKS.due("key", x.byteOf(0, 7, 3), 100);
        x.store(0, 105, 9);
        CHECKS.due("on the next one", x.record(1, 1, 0), 0);
        Bench b = new Bench();
        b.unit.allocate(0, 1);
        b.bytes(100, 1, 1);
        b.run(Bench.WRITE_RECORD, 100, 0);
        CHECKS.due("behind one of a program", b.unit.store(0, 3, 5), 0);
        CHECKS.due("beginning", b.unit.record(0, 2, 0), 22);
    }

    private static void noTime() {
        Bench b = new Bench();
        b.run(Bench.SEEK, 9, 0);
        b.unit.allocate(0, 4);
        b.unit.store(0, 3, 5);
        b.unit.store(0, 3, 5);
        b.unit.fetch(0, 3);
        b.unit.fetch(0, 4);
        b.unit.spoil(3, 1);
        b.unit.fetch(0, 3);
        CHECKS.state("refused", () -> b.unit.store(0, 3, 6));
        b.unit.scratch(0);
        CHECKS.due("clock", b.unit.clock(), 37);
        CHECKS.due("head", b.unit.look(4), 9);
        CHECKS.due("transfers", b.unit.look(5), 0);
    }

    private static void firstBytes() {
        for (int n : new int[] {0, 1, 2, 59, 60}) {
            CountedUnit x = new CountedUnit();
            x.allocate(0, 1);
            for (int i = 0; i < 62; i++) {
                x.poke(i, 100 + i);
            }
            CHECKS.due(n + " bytes", x.store(0, 9, n), 0);
            CHECKS.due("length", x.record(0, 1, 2), n);
            for (int i = 0; i < n; i++) {
                CHECKS.due("byte " + i + " of " + n, x.byteOf(0, 1, 4 + i), 100 + i);
            }
            CHECKS.argument("no more", () -> x.byteOf(0, 1, 4 + n));
        }
    }

    private static void inPlace() {
        for (int n : new int[] {0, 1, 60}) {
            CountedUnit x = new CountedUnit();
            x.allocate(0, 2);
            x.store(0, 4, 3);
            x.store(0, 6, n);
            x.store(0, 8, 3);
            x.spoil(0, 1);
            x.spoil(0, 2);
            x.poke(0, 88);
            CHECKS.due("again, " + n, x.store(0, 6, n), 0);
            CHECKS.due("as many records", x.record(0, 0, 0), 3);
            CHECKS.due("spoiled no more", x.record(0, 2, 3), 0);
            CHECKS.due("the one before still is", x.record(0, 1, 3), 1);
            CHECKS.due("its data", n == 0 ? 88 : x.byteOf(0, 2, 4), 88);
            CHECKS.due("its key", x.byteOf(0, 2, 3), 6);
            CHECKS.due("the one before", x.byteOf(0, 1, 4), 0);
            CHECKS.due("the one behind", x.byteOf(0, 3, 4), 0);
            CHECKS.due("not spoiled before", x.store(0, 8, 3), 0);
            CHECKS.due("also written", x.byteOf(0, 3, 4), 88);
        }
    }

    private static void inPlaceFarFromHome() {
        Bench b = new Bench();
        b.unit.allocate(0, 4);
        int key = storeSevens(b.unit, 1, 4, 4, 1, 2, 3, 0) - 4;
        CHECKS.due("on the last of the full tracks", b.unit.store(0, key, 60), 0);
        b.run(Bench.SEEK, 1, 0, Bench.ERASE, 0, 0);
        CHECKS.due("also when its home has room again", b.unit.store(0, key, 60), 0);
        CHECKS.due("nothing came there", b.unit.record(1, 0, 0), 0);
        CHECKS.due("a new one does", b.unit.store(0, key + 4, 60), 1);
    }

    private static void noSuchSetOrLength() {
        CountedUnit x = new CountedUnit();
        x.allocate(0, 1);
        for (int set : NO_SETS) {
            CHECKS.argument("set " + set, () -> x.store(set, 0, 0));
            CHECKS.argument("set " + set + " and n", () -> x.store(set, 0, 61));
        }
        for (int n : new int[] {-1, 61, 62, 256, LEAST, MOST}) {
            CHECKS.argument("n " + n, () -> x.store(0, 0, n));
            CHECKS.argument("not allocated, n " + n, () -> x.store(1, 0, n));
        }
        CHECKS.due("nothing came", x.record(0, 0, 0), 0);
    }

    private static void storeNotAllocated() {
        CountedUnit x = new CountedUnit();
        x.allocate(1, 1);
        for (int set : new int[] {0, 2, 5}) {
            CHECKS.state("set " + set, () -> x.store(set, 0, 0));
        }
        CHECKS.due("allocated", x.store(1, 0, 0), 0);
        x.scratch(1);
        CHECKS.state("behind scratch", () -> x.store(1, 0, 0));
        CHECKS.due("the record stays", x.record(0, 0, 0), 1);
    }

    private static void otherLength() {
        int[][] lengthAndN = {{3, 2}, {3, 4}, {3, 0}, {3, 60}, {0, 1}, {60, 59}, {1, 0}};
        for (int[] row : lengthAndN) {
            CountedUnit x = new CountedUnit();
            x.allocate(0, 2);
            x.store(0, 4, row[0]);
            x.spoil(0, 1);
            x.poke(0, 5);
            CHECKS.state(row[1] + " for " + row[0], () -> x.store(0, 4, row[1]));
            CHECKS.due("records", x.record(0, 0, 0) + x.record(1, 0, 0), 1);
            CHECKS.due("length", x.record(0, 1, 2), row[0]);
            CHECKS.due("still spoiled", x.record(0, 1, 3), 1);
            CHECKS.due("its bytes", row[0] == 0 ? 0 : x.byteOf(0, 1, 4), 0);
            CHECKS.due("as long", x.store(0, 4, row[0]), 0);
        }
    }

    private static void noRoom() {
        CountedUnit x = new CountedUnit();
        x.allocate(0, 1);
        for (int key = 0; key < 25; key++) {
            CHECKS.due("24 places, key " + key, x.store(0, key, 0), 0);
        }
        CHECKS.state("none is left", () -> x.store(0, 25, 0));
        CHECKS.due("records", x.record(0, 0, 0), 25);
        CHECKS.due("in place of one there is room", x.store(0, 24, 0), 0);
        CHECKS.due("the last one ends at the end", x.record(0, 25, 0), 576);
    }

    private static void noRoomByOnePlace() {
        int[][] dataAndRoom = {{17, 1}, {18, 1}, {19, 0}, {60, 0}};
        for (int[] row : dataAndRoom) {
            CountedUnit x = new CountedUnit();
            x.allocate(0, 1);
            for (int key = 0; key < 6; key++) {
                x.store(0, key, 60);
            }
            x.store(0, 6, 30);
            // 558 places are taken: 42 are left, that is 18 of data.
            if (row[1] == 1) {
                CHECKS.due(row[0] + " bytes", x.store(0, 7, row[0]), 0);
            } else {
                CHECKS.state(row[0] + " bytes", () -> x.store(0, 7, row[0]));
            }
            CHECKS.due("records", x.record(0, 0, 0), 7 + row[1]);
        }
    }

    private static void fetched() {
        for (int n : new int[] {0, 1, 59, 60}) {
            CountedUnit x = new CountedUnit();
            x.allocate(0, 1);
            for (int i = 0; i < n; i++) {
                x.poke(i, 100 + i);
            }
            x.store(0, -9, n);
            for (int i = 0; i < 62; i++) {
                x.poke(i, 7);
            }
            CHECKS.due(n + " bytes", x.fetch(0, -9), n);
            for (int i = 0; i < 62; i++) {
                CHECKS.due("byte " + i + " of " + n, x.peek(i), i < n ? 100 + i : 7);
            }
        }
    }

    private static void noneAndSpoiled() {
        CountedUnit x = new CountedUnit();
        x.allocate(0, 4);
        CHECKS.due("none at all", x.fetch(0, 0), -1);
        x.store(0, 5, 3);
        x.store(0, 9, 0);
        x.spoil(1, 1);
        x.spoil(1, 2);
        for (int i = 0; i < 4; i++) {
            x.poke(i, 60 + i);
        }
        CHECKS.due("spoiled", x.fetch(0, 5), -2);
        CHECKS.due("spoiled, without data", x.fetch(0, 9), -2);
        CHECKS.due("none of this key", x.fetch(0, 13), -1);
        CHECKS.due("none with this home", x.fetch(0, 6), -1);
        for (int i = 0; i < 4; i++) {
            CHECKS.due("byte " + i, x.peek(i), 60 + i);
        }
        CHECKS.due("stored again", x.store(0, 5, 3), 1);
        CHECKS.due("no more spoiled", x.fetch(0, 5), 3);
    }

    private static void fetchNoSuchSet() {
        CountedUnit x = new CountedUnit();
        x.allocate(0, 1);
        x.allocate(5, 1);
        for (int set : NO_SETS) {
            CHECKS.argument("set " + set, () -> x.fetch(set, 0));
        }
        CHECKS.due("first", x.fetch(0, 0), -1);
        CHECKS.due("last", x.fetch(5, 0), -1);
    }

    private static void fetchNotAllocated() {
        CountedUnit x = new CountedUnit();
        x.allocate(1, 1);
        x.store(1, 0, 2);
        for (int set : new int[] {0, 2, 5}) {
            CHECKS.state("set " + set, () -> x.fetch(set, 0));
        }
        CHECKS.due("allocated", x.fetch(1, 0), 2);
        x.scratch(1);
        CHECKS.state("behind scratch", () -> x.fetch(1, 0));
    }
}
