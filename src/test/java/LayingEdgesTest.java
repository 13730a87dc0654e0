/** The edges that the document names in promise 5: WRITE RECORD, ERASE and SKIP, and a track's room. */
public final class LayingEdgesTest {
    private static final Checks CHECKS = new Checks();

    public static void main(String[] args) {
        Sentences sentences = new Sentences(CHECKS);
        sentences.of("Terms", "RECORDS stand on a track one behind the other from place 0 on, numbered 1, 2, .. as"
            + " they stand", LayingEdgesTest::oneBehindTheOther);
        sentences.of("Terms", "a record has a KEY of 0 .. 8 bytes and DATA of 0 .. 60", LayingEdgesTest::lengths);
        sentences.of("Terms", "it takes 20 places, then its key's, then its data's", LayingEdgesTest::placesOfARecord);
        sentences.of("Terms", "A track's records take at most 600 places.", LayingEdgesTest::thirtyRecords,
            LayingEdgesTest::sevenRecords);
        sentences.of("Terms", "the clock goes on to the end of the record to which the head is oriented",
            LayingEdgesTest::behindTheOriented);
        sentences.of("Terms", "or, not oriented, to place 0 (it stays there when it is there)",
            LayingEdgesTest::toPlaceZero);
        sentences.of("Terms", "no room for it is status 5", LayingEdgesTest::noRoom, LayingEdgesTest::roomOfThoseBehind);
        sentences.of("Terms", "otherwise all records behind are gone (not oriented: all of the track)",
            LayingEdgesTest::goneBehind, LayingEdgesTest::goneOfAllTheTrack);
        sentences.of("Terms", "the new one stands there, and the head is oriented behind its data",
            LayingEdgesTest::orientedBehindTheNew, LayingEdgesTest::newOverSpoiled);
        sentences.of("Terms", "10 ERASE: goes on likewise, then all records behind are gone; 5 places",
            LayingEdgesTest::erasePlaces, LayingEdgesTest::eraseBehind);
        sentences.of("Terms", "the head is not oriented then", LayingEdgesTest::notOrientedBehindErase);
        sentences.of("Terms", "11 SKIP: b places", LayingEdgesTest::skipPlaces);
        sentences.of("Terms", "the orientation ends when b is not 0", LayingEdgesTest::skipEndsOrientation);
        sentences.finish();
    }

    private static void oneBehindTheOther() {
        Bench b = new Bench();
        b.lay(0, 1, 2, 0, 0, 8, 60, 3, 0);
        int[] begins = {0, 23, 43, 131};
        for (int k = 1; k <= 4; k++) {
            CHECKS.due("beginning of " + k, b.unit.record(0, k, 0), begins[k - 1]);
            b.runAt(begins[k - 1], Bench.READ_COUNT, 10, 0);
            CHECKS.due("number of " + k, b.unit.peek(11), k);
        }
    }

    private static void lengths() {
        int[][] rows = {{0, 0, 0}, {8, 60, 0}, {8, 0, 0}, {0, 60, 0}, {9, 0, 2}, {0, 61, 2}, {9, 61, 2}, {8, 61, 2},
            {9, 60, 2}, {255, 0, 2}, {0, 255, 2}, {128, 128, 2}};
        for (int[] row : rows) {
            Bench b = new Bench();
            String what = "key " + row[0] + ", data " + row[1];
            b.bytes(0, row[0], row[1]);
            CHECKS.due(what, b.run(Bench.WRITE_RECORD, 0, 0), row[2]);
            CHECKS.due(what + ", records", b.unit.record(0, 0, 0), row[2] == 0 ? 1 : 0);
            if (row[2] == 0) {
                CHECKS.due(what + ", key", b.unit.record(0, 1, 1), row[0]);
                CHECKS.due(what + ", data", b.unit.record(0, 1, 2), row[1]);
            }
        }
    }

    private static void placesOfARecord() {
        int[][] rows = {{0, 0, 20}, {1, 0, 21}, {0, 1, 21}, {8, 0, 28}, {0, 60, 80}, {8, 60, 88}};
        for (int[] row : rows) {
            Bench b = new Bench();
            b.bytes(0, row[0], row[1]);
            CHECKS.due("time", b.time(CHECKS, "write", 0, Bench.WRITE_RECORD, 0, 0), row[2]);
            b.runAt(0, Bench.WRITE_RECORD, 0, 0, Bench.WRITE_RECORD, 0, 0);
            CHECKS.due("the next one begins", b.unit.record(0, 2, 0), row[2]);
            CHECKS.due("behind the count", b.timeAt(0, CHECKS, "count", 0, Bench.READ_COUNT, 100, 0), 20);
            CHECKS.due("behind the key", b.timeAt(0, CHECKS, "key", 0, Bench.READ_KEY, 100, 60), 20 + row[0]);
            CHECKS.due("behind the data", b.timeAt(0, CHECKS, "data", 0, Bench.READ_DATA, 100, 60), row[2]);
        }
    }

    private static void thirtyRecords() {
        Bench b = new Bench();
        b.layThirty();
        CHECKS.due("records", b.unit.record(0, 0, 0), 30);
        CHECKS.due("the last one begins", b.unit.record(0, 30, 0), 580);
        CHECKS.due("one more", b.runAt(580, Bench.READ_COUNT, 0, 0, Bench.WRITE_RECORD, 254, 0), 5);
        CHECKS.due("records", b.unit.record(0, 0, 0), 30);
        CHECKS.due("in place of the last", b.runAt(560, Bench.READ_COUNT, 0, 0, Bench.WRITE_RECORD, 254, 0), 0);
        CHECKS.due("records", b.unit.record(0, 0, 0), 30);
        CHECKS.argument("no record 31", () -> b.unit.record(0, 31, 0));
    }

    /** Six of 88 places leave 72. */
    private static void sevenRecords() {
        Bench b = new Bench();
        b.lay(0, 8, 60, 8, 60, 8, 60, 8, 60, 8, 60, 8, 60, 8, 44);
        CHECKS.due("records", b.unit.record(0, 0, 0), 7);
        CHECKS.due("the last one begins", b.unit.record(0, 7, 0), 528);
        CHECKS.due("its data are read to the end", b.timeAt(528, CHECKS, "data", 0, Bench.READ_DATA, 0, 60), 72);
        CHECKS.due("that is the index", b.unit.look(3), 1);
        CHECKS.due("last byte", b.unit.byteOf(0, 7, 51), 121);
    }

    private static void behindTheOriented() {
        int[][] before = {{Bench.NUMBER, 9, 0}, {Bench.READ_COUNT, 100, 0}, {Bench.READ_KEY, 100, 9},
            {Bench.KEY, 100, 8}, {Bench.READ_DATA, 100, 9}};
        for (int[] command : before) {
            Bench b = new Bench();
            b.lay(0, 2, 3, 4, 5, 1, 1);
            b.bytes(0, 0, 0);
            CHECKS.due("time behind kind " + command[0], b.timeAt(25, CHECKS, "write", 0, command[0], command[1],
                command[2], Bench.WRITE_RECORD, 0, 0), 29 + 20);
            CHECKS.due("it begins", b.unit.record(0, 3, 0), 54);
            CHECKS.due("records", b.unit.record(0, 0, 0), 3);
            CHECKS.due("it is the new one", b.unit.record(0, 3, 1), 0);
        }
    }

    private static void toPlaceZero() {
        int[][] placeAndTime = {{0, 20}, {1, 619}, {300, 320}, {599, 21}};
        for (int[] row : placeAndTime) {
            Bench b = new Bench();
            CHECKS.due("from " + row[0], b.timeAt(row[0], CHECKS, "write", 0, Bench.WRITE_RECORD, 0, 0), row[1]);
            CHECKS.due("it begins", b.unit.record(0, 1, 0), 0);
            CHECKS.due("index", b.unit.look(3), row[0] == 0 ? 0 : 1);
        }
        Bench b = new Bench();
        b.run(Bench.SKIP, 0, 600);
        CHECKS.due("at place 0 a turn later", b.time(CHECKS, "write", 0, Bench.WRITE_RECORD, 0, 0), 20);
        CHECKS.due("index", b.unit.look(3), 0);
    }

    /** Six records of 88 places: 72 are left, 20 of them for a count. */
    private static Bench sixRecords() {
        Bench b = new Bench();
        b.lay(0, 8, 60, 8, 60, 8, 60, 8, 60, 8, 60, 8, 60);
        return b;
    }

    private static void noRoom() {
        int[][] keyDataStatus = {{8, 43, 0}, {8, 44, 0}, {8, 45, 5}, {0, 52, 0}, {0, 53, 5}, {8, 60, 5}, {0, 0, 0}};
        for (int[] row : keyDataStatus) {
            Bench b = sixRecords();
            String what = "key " + row[0] + ", data " + row[1];
            int before = b.unit.look(5);
            b.bytes(0, row[0], row[1]);
            int length = row[2] == 0 ? 20 + row[0] + row[1] : 0;
            CHECKS.due(what + ", time", b.timeAt(440, CHECKS, what, row[2], Bench.READ_COUNT, 100, 0,
                Bench.WRITE_RECORD, 0, 0), 88 + length);
            CHECKS.due(what + ", records", b.unit.record(0, 0, 0), row[2] == 0 ? 7 : 6);
            CHECKS.due(what + ", ended at", b.unit.look(0), row[2] == 0 ? 2 : 1);
            CHECKS.due(what + ", begun", b.unit.look(2), 2);
            CHECKS.due(what + ", written", b.unit.look(5) - before, row[2] == 0 ? 1 : 0);
        }
    }

    /** Behind the fifth one the room of the sixth counts; where there is none, all stay. */
    private static void roomOfThoseBehind() {
        Bench b = sixRecords();
        b.bytes(0, 8, 60);
        CHECKS.due("in place of the sixth", b.runAt(352, Bench.READ_COUNT, 100, 0, Bench.WRITE_RECORD, 0, 0), 0);
        CHECKS.due("records", b.unit.record(0, 0, 0), 6);
        CHECKS.due("content", b.unit.byteOf(0, 6, 67), 0);
        b.bytes(0, 8, 44);
        b.runAt(440, Bench.READ_COUNT, 100, 0, Bench.WRITE_RECORD, 0, 0);
        b.bytes(0, 8, 45);
        CHECKS.due("refused with one behind", b.runAt(440, Bench.READ_COUNT, 100, 0, Bench.WRITE_RECORD, 0, 0), 5);
        CHECKS.due("it stays", b.unit.record(0, 0, 0), 7);
        CHECKS.due("as it was", b.unit.record(0, 7, 2), 44);
        b.bytes(0, 0, 0);
        CHECKS.due("refused behind the last", b.timeAt(528, CHECKS, "write", 5, Bench.READ_COUNT, 100, 0,
            Bench.WRITE_RECORD, 0, 0), 72);
        b.bytes(0, 8, 60);
        CHECKS.due("the longest, not oriented", b.runAt(1, Bench.WRITE_RECORD, 0, 0), 0);
        CHECKS.due("records", b.unit.record(0, 0, 0), 1);
    }

    private static void goneBehind() {
        for (int k = 1; k <= 4; k++) {
            Bench b = new Bench();
            b.lay(0, 1, 1, 1, 1, 1, 1, 1, 1);
            b.bytes(0, 2, 0, 201, 202);
            b.runAt(22 * (k - 1), Bench.READ_COUNT, 100, 0, Bench.WRITE_RECORD, 0, 0);
            CHECKS.due("behind " + k, b.unit.record(0, 0, 0), k + 1);
            CHECKS.due("it stays", b.unit.byteOf(0, k, 1), 10 * k + 1);
            CHECKS.due("the first one too", b.unit.byteOf(0, 1, 0), 10);
            CHECKS.due("the new one", b.unit.byteOf(0, k + 1, 0), 201);
        }
    }

    private static void goneOfAllTheTrack() {
        Bench b = new Bench();
        b.lay(0, 1, 1, 1, 1, 1, 1);
        b.lay(1, 1, 1, 1, 1);
        b.bytes(0, 2, 0, 201, 202);
        b.runAt(44, Bench.WRITE_RECORD, 0, 0);
        CHECKS.due("records", b.unit.record(1, 0, 0), 1);
        CHECKS.due("the new one", b.unit.byteOf(1, 1, 1), 202);
        CHECKS.due("another track", b.unit.record(0, 0, 0), 3);
    }

    private static void orientedBehindTheNew() {
        Bench b = new Bench();
        b.bytes(0, 1, 2, 50, 51, 52);
        CHECKS.due("two at once", b.time(CHECKS, "write", 0, Bench.WRITE_RECORD, 0, 0, Bench.WRITE_RECORD, 0, 0), 46);
        CHECKS.due("records", b.unit.record(0, 0, 0), 2);
        CHECKS.due("its key is read a turn later", b.timeAt(0, CHECKS, "key", 0, Bench.WRITE_RECORD, 0, 0,
            Bench.READ_KEY, 100, 1), 621);
        CHECKS.due("its data, too", b.timeAt(0, CHECKS, "data", 0, Bench.WRITE_RECORD, 0, 0,
            Bench.READ_DATA, 100, 2), 623);
        CHECKS.due("from its end on nothing is gone", b.timeAt(0, CHECKS, "erase", 0, Bench.WRITE_RECORD, 0, 0,
            Bench.ERASE, 0, 0), 28);
        CHECKS.due("records", b.unit.record(0, 0, 0), 1);
    }

    private static void newOverSpoiled() {
        Bench b = new Bench();
        b.lay(0, 1, 1, 1, 1);
        b.unit.spoil(0, 1);
        b.unit.spoil(0, 2);
        b.bytes(0, 1, 1);
        b.runAt(0, Bench.READ_COUNT, 100, 0, Bench.WRITE_RECORD, 0, 0);
        CHECKS.due("the one before is", b.unit.record(0, 1, 3), 1);
        CHECKS.due("the new one is not", b.unit.record(0, 2, 3), 0);
    }

    private static void erasePlaces() {
        int[][] placeAndTime = {{0, 5}, {1, 604}, {595, 10}, {599, 6}};
        for (int[] row : placeAndTime) {
            Bench b = new Bench();
            CHECKS.due("empty, from " + row[0], b.timeAt(row[0], CHECKS, "erase", 0, Bench.ERASE, 0, 0), row[1]);
            b.lay(0, 1, 1, 1, 1);
            CHECKS.due("two records, from " + row[0], b.timeAt(row[0], CHECKS, "erase", 0, Bench.ERASE, 0, 0), row[1]);
            CHECKS.due("none is left", b.unit.record(0, 0, 0), 0);
        }
    }

    private static void eraseBehind() {
        for (int k = 1; k <= 3; k++) {
            Bench b = new Bench();
            b.lay(0, 1, 1, 1, 1, 1, 1);
            CHECKS.due("behind " + k, b.timeAt(22 * (k - 1), CHECKS, "erase", 0, Bench.READ_COUNT, 100, 0,
                Bench.ERASE, 0, 0), 27);
            CHECKS.due("records", b.unit.record(0, 0, 0), k);
        }
        Bench b = new Bench();
        b.layThirty();
        CHECKS.due("behind the last of a full track", b.timeAt(580, CHECKS, "erase", 0, Bench.READ_COUNT, 100, 0,
            Bench.ERASE, 0, 0), 25);
        CHECKS.due("all stay", b.unit.record(0, 0, 0), 30);
        CHECKS.due("index", b.unit.look(3), 1);
    }

    private static void notOrientedBehindErase() {
        Bench b = new Bench();
        b.lay(0, 1, 1, 1, 1, 1, 1);
        CHECKS.due("erase again", b.timeAt(0, CHECKS, "erase", 0, Bench.READ_COUNT, 100, 0, Bench.ERASE, 0, 0,
            Bench.ERASE, 0, 0), 605);
        CHECKS.due("all are gone", b.unit.record(0, 0, 0), 0);
        b.lay(0, 1, 1, 1, 1, 1, 1);
        b.runAt(0, Bench.READ_COUNT, 100, 0, Bench.ERASE, 0, 0, Bench.WRITE_RECORD, 0, 0);
        CHECKS.due("written at place 0", b.unit.record(0, 0, 0), 1);
        b.lay(0, 1, 1, 1, 1, 1, 1);
        CHECKS.due("then read", b.timeAt(22, CHECKS, "read", 0, Bench.READ_COUNT, 100, 0, Bench.ERASE, 0, 0,
            Bench.READ_DATA, 100, 1), 578 + 22);
        CHECKS.due("the first one", b.unit.peek(100), 11);
    }

    private static void skipPlaces() {
        for (int places : new int[] {0, 1, 2, 599, 600}) {
            Bench b = new Bench();
            CHECKS.due("skip " + places, b.time(CHECKS, "skip", 0, Bench.SKIP, 0, places), places);
            CHECKS.due("again " + places, b.time(CHECKS, "skip", 0, Bench.SKIP, -1, places), places);
        }
        for (int places : new int[] {-1, 601}) {
            Bench b = new Bench();
            CHECKS.due("skip " + places, b.time(CHECKS, "skip", 2, Bench.SKIP, 0, places), 0);
        }
    }

    private static void skipEndsOrientation() {
        // Four records of 22 places; the first one is oriented to, at place 20.
        int[][] skipDataTime = {{0, 11, 22}, {1, 21, 44}, {2, 21, 44}, {3, 31, 66}, {600, 21, 644}};
        for (int[] row : skipDataTime) {
            Bench b = new Bench();
            b.lay(0, 1, 1, 1, 1, 1, 1, 1, 1);
            CHECKS.due("time, skip " + row[0], b.timeAt(0, CHECKS, "skip", 0, Bench.READ_COUNT, 100, 0,
                Bench.SKIP, 0, row[0], Bench.READ_DATA, 110, 1), row[2]);
            CHECKS.due("data, skip " + row[0], b.unit.peek(110), row[1]);
            b.runAt(0, Bench.READ_COUNT, 100, 0, Bench.SKIP, 0, row[0], Bench.ERASE, 0, 0);
            CHECKS.due("erase behind it, skip " + row[0], b.unit.record(0, 0, 0), row[0] == 0 ? 1 : 0);
        }
    }
}
