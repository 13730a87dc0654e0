/** The edges that the document names in promise 5: READ COUNT, READ KEY, READ DATA and WRITE DATA. */
public final class TransferEdgesTest {
    private static final Checks CHECKS = new Checks();

    public static void main(String[] args) {
        Sentences sentences = new Sentences(CHECKS);
        sentences.of("Terms", "the track, number, key's length, data's length come to the memory from a on",
            TransferEdgesTest::counts);
        sentences.of("Terms", "of the record to which the head is oriented if it is not behind the key (data) yet,"
            + " otherwise it moves on first", TransferEdgesTest::whichRecord);
        sentences.of("Terms", "it is oriented behind the key (data) then", TransferEdgesTest::orientedThen);
        sentences.of("Terms", "At most b bytes come to the memory from a on.", TransferEdgesTest::atMostBytes,
            TransferEdgesTest::longestAndShortest, TransferEdgesTest::atTheMemorysEnds);
        sentences.of("Terms", "The RESIDUAL is b less the length; below 0 the status is 3.",
            TransferEdgesTest::residuals);
        sentences.of("Terms", "READ DATA of a spoiled record: status 4 (nothing comes to the memory; residual b).",
            TransferEdgesTest::spoiledData, TransferEdgesTest::spoiledNextToGood);
        sentences.of("Terms", "the b bytes from a on become the data, if that is as long; otherwise status 3, and"
            + " nothing is written (the residual also then).", TransferEdgesTest::asLong,
            TransferEdgesTest::longestAndShortestWritten);
        sentences.of("Terms", "It is spoiled no more.", TransferEdgesTest::spoiledNoMore);
        sentences.finish();
    }

    private static void bytesDue(String what, Bench b, int from, int... due) {
        for (int i = 0; i < due.length; i++) {
            CHECKS.due(what + ", byte " + (from + i), b.unit.peek(from + i), due[i]);
        }
    }

    private static void counts() {
        for (int track : new int[] {0, 31}) {
            Bench b = new Bench();
            b.lay(track, 0, 0, 8, 60);
            b.bytes(10, 99, 99, 99, 99, 99, 99);
            b.runAt(0, Bench.READ_COUNT, 11, 0, Bench.READ_COUNT, 252, 0);
            bytesDue("first count", b, 10, 99, track, 1, 0, 0, 99);
            bytesDue("at the memory's end", b, 252, track, 2, 8, 60);
            b.runAt(20, Bench.READ_COUNT, 0, 0);
            bytesDue("at its beginning", b, 0, track, 2, 8, 60, 0);
        }
        Bench b = new Bench();
        b.layThirty();
        b.runAt(580, Bench.READ_COUNT, 100, 0);
        bytesDue("number 30", b, 100, 0, 30, 0, 0);
        CHECKS.due("came to no record", b.unit.look(5), 30);
        CHECKS.due("residual", b.unit.look(1), 0);
    }

    /** Two records of key 1 and data 2: which one's byte comes, behind each way to be oriented to the first. */
    private static void whichRecord() {
        int[][] before = {{Bench.NUMBER, 9, 0}, {Bench.READ_COUNT, 100, 0}, {Bench.KEY, 100, 8},
            {Bench.HIGHER, 100, 8}, {Bench.READ_KEY, 110, 1}, {Bench.READ_DATA, 110, 2}, {Bench.WRITE_DATA, 120, 2}};
        int[] recordOfKey = {1, 1, 2, 2, 2, 2, 2};
        int[] recordOfData = {1, 1, 1, 1, 1, 2, 2};
        for (int i = 0; i < before.length; i++) {
            String what = "behind kind " + before[i][0];
            Bench b = oriented();
            b.runAt(0, before[i][0], before[i][1], before[i][2], Bench.READ_KEY, 200, 1);
            CHECKS.due("key " + what, b.unit.peek(200), 10 * recordOfKey[i]);
            b = oriented();
            b.runAt(0, before[i][0], before[i][1], before[i][2], Bench.READ_DATA, 200, 2);
            CHECKS.due("data " + what, b.unit.peek(200), 10 * recordOfData[i] + 1);
            b = oriented();
            b.runAt(0, before[i][0], before[i][1], before[i][2], Bench.WRITE_DATA, 130, 2);
            CHECKS.due("written " + what, b.unit.byteOf(0, recordOfData[i], 1), 77);
        }
        Bench b = oriented();
        b.runAt(1, Bench.READ_KEY, 200, 1);
        CHECKS.due("not oriented", b.unit.peek(200), 20);
        b = oriented();
        b.run(Bench.SKIP, 0, 0, Bench.WRITE_RECORD, 140, 0, Bench.READ_DATA, 200, 2);
        CHECKS.due("behind a record just written, the only one", b.unit.peek(200), 71);
    }

    private static Bench oriented() {
        Bench b = new Bench();
        b.lay(0, 1, 2, 1, 2);
        b.bytes(130, 77, 77, 0, 0);
        b.bytes(140, 1, 2, 70, 71, 72);
        b.bytes(100, 255);
        return b;
    }

    private static void orientedThen() {
        // Places behind the key and behind the data of a record of key 3 and data 5, from its beginning on.
        int[][] kindLengthTime = {{Bench.READ_KEY, 3, 23}, {Bench.READ_DATA, 5, 28}, {Bench.WRITE_DATA, 5, 28}};
        for (int[] row : kindLengthTime) {
            Bench b = new Bench();
            b.lay(0, 3, 5, 0, 0);
            CHECKS.due("places of kind " + row[0], b.timeAt(0, CHECKS, "run", 0, row[0], 100, row[1]), row[2]);
            CHECKS.due("then on", b.timeAt(0, CHECKS, "run", 0, row[0], 100, row[1], Bench.READ_COUNT, 0, 0), 48);
            CHECKS.due("the next one", b.unit.peek(1), 2);
        }
        Bench b = new Bench();
        b.lay(0, 0, 0, 0, 0);
        CHECKS.due("no key: behind it all the same", b.timeAt(0, CHECKS, "run", 0, Bench.READ_KEY, 0, 0,
            Bench.READ_KEY, 0, 0), 40);
        CHECKS.due("no data: behind them all the same", b.timeAt(0, CHECKS, "run", 0, Bench.READ_DATA, 0, 0,
            Bench.READ_DATA, 0, 0), 40);
        CHECKS.due("no key, then no data, of one record", b.timeAt(0, CHECKS, "run", 0, Bench.READ_KEY, 0, 0,
            Bench.READ_DATA, 0, 0), 20);
    }

    private static void readDue(int kind, int length, int limit) {
        Bench b = new Bench();
        b.lay(0, kind == Bench.READ_KEY ? length : 0, kind == Bench.READ_KEY ? 0 : length);
        String what = "kind " + kind + ", " + limit + " of " + length;
        CHECKS.due(what, b.runAt(0, kind, 101, limit), limit < length ? 3 : 0);
        CHECKS.due(what + ", residual", b.unit.look(1), limit - length);
        int come = Math.min(limit, length);
        CHECKS.due(what + ", before", b.unit.peek(100), 0);
        for (int i = 0; i < come; i++) {
            CHECKS.due(what + ", byte " + i, b.unit.peek(101 + i), 10 + i);
        }
        CHECKS.due(what + ", behind", b.unit.peek(101 + come), 0);
        CHECKS.due(what + ", time", b.unit.clock() % 600, 20 + length);
    }

    private static void atMostBytes() {
        for (int kind : new int[] {Bench.READ_KEY, Bench.READ_DATA}) {
            for (int limit = 0; limit <= 6; limit++) {
                readDue(kind, 4, limit);
            }
        }
    }

    private static void longestAndShortest() {
        readDue(Bench.READ_KEY, 0, 0);
        readDue(Bench.READ_KEY, 0, 1);
        readDue(Bench.READ_KEY, 0, 60);
        readDue(Bench.READ_KEY, 8, 7);
        readDue(Bench.READ_KEY, 8, 8);
        readDue(Bench.READ_KEY, 8, 9);
        readDue(Bench.READ_KEY, 8, 60);
        readDue(Bench.READ_DATA, 0, 0);
        readDue(Bench.READ_DATA, 0, 60);
        readDue(Bench.READ_DATA, 60, 0);
        readDue(Bench.READ_DATA, 60, 59);
        readDue(Bench.READ_DATA, 60, 60);
    }

    private static void atTheMemorysEnds() {
        Bench b = new Bench();
        b.lay(0, 2, 3);
        b.bytes(0, 0, 0, 0, 0);
        b.bytes(250, 0, 0, 0, 0, 0, 0);
        b.runAt(0, Bench.READ_KEY, 0, 2, Bench.READ_DATA, 253, 3);
        bytesDue("key at the beginning", b, 0, 10, 11, 0);
        bytesDue("data at the end", b, 252, 0, 12, 13, 14);
        b.runAt(0, Bench.READ_DATA, 196, 60);
        bytesDue("data of 60 to the end", b, 196, 12, 13, 14, 0);
        bytesDue("the rest stays", b, 252, 0, 12, 13, 14);
    }

    private static void residuals() {
        Bench b = new Bench();
        b.lay(0, 4, 6);
        int[][] kindLimitResidual = {{Bench.READ_KEY, 3, -1}, {Bench.READ_KEY, 4, 0}, {Bench.READ_KEY, 5, 1},
            {Bench.READ_DATA, 5, -1}, {Bench.READ_DATA, 6, 0}, {Bench.READ_DATA, 7, 1}, {Bench.READ_KEY, 0, -4},
            {Bench.READ_DATA, 0, -6}, {Bench.READ_KEY, 60, 56}, {Bench.READ_DATA, 60, 54}};
        for (int[] row : kindLimitResidual) {
            String what = "kind " + row[0] + ", b " + row[1];
            CHECKS.due(what, b.runAt(0, row[0], 100, row[1], Bench.SKIP, 0, 0), row[2] < 0 ? 3 : 0);
            CHECKS.due(what + ", residual", b.unit.look(1), row[2]);
            CHECKS.due(what + ", ended at", b.unit.look(0), row[2] < 0 ? 0 : 2);
        }
    }

    private static void spoiledData() {
        for (int length : new int[] {0, 3, 60}) {
            for (int limit : new int[] {0, 2, 3, 4, 60}) {
                Bench b = new Bench();
                b.lay(0, 1, length);
                b.unit.spoil(0, 1);
                String what = limit + " of " + length;
                CHECKS.due(what, b.timeAt(0, CHECKS, what, 4, Bench.READ_DATA, 100, limit, Bench.SKIP, 0, 0),
                    21 + length);
                CHECKS.due(what + ", residual", b.unit.look(1), limit);
                CHECKS.due(what + ", ended at", b.unit.look(0), 0);
                bytesDue(what, b, 100, 0, 0, 0, 0);
                CHECKS.due(what + ", still spoiled", b.unit.record(0, 1, 3), 1);
            }
        }
    }

    private static void spoiledNextToGood() {
        Bench b = new Bench();
        b.lay(0, 1, 1, 1, 1, 1, 1);
        b.unit.spoil(0, 2);
        CHECKS.due("its count and key", b.runAt(22, Bench.READ_COUNT, 100, 0, Bench.READ_KEY, 110, 1), 0);
        bytesDue("key", b, 110, 20);
        CHECKS.due("the one before", b.runAt(0, Bench.READ_DATA, 120, 1), 0);
        CHECKS.due("the one behind", b.runAt(44, Bench.READ_DATA, 121, 1), 0);
        bytesDue("their data", b, 120, 11, 31, 0);
        CHECKS.due("it itself", b.runAt(0, Bench.READ_DATA, 120, 1, Bench.READ_DATA, 122, 1), 4);
        CHECKS.due("ended at", b.unit.look(0), 1);
    }

    private static void writeDue(int length, int given) {
        Bench b = new Bench();
        b.lay(0, 1, length, 1, 1);
        b.bytes(100, 201, 202, 203, 204, 205, 206);
        String what = given + " for " + length;
        CHECKS.due(what, b.timeAt(0, CHECKS, what, given == length ? 0 : 3, Bench.WRITE_DATA, 100, given), 21 + length);
        CHECKS.due(what + ", residual", b.unit.look(1), given - length);
        CHECKS.due(what + ", length", b.unit.record(0, 1, 2), length);
        CHECKS.due(what + ", key", b.unit.byteOf(0, 1, 0), 10);
        for (int i = 0; i < Math.min(length, 6); i++) {
            CHECKS.due(what + ", byte " + i, b.unit.byteOf(0, 1, 1 + i), given == length ? 201 + i : 11 + i);
        }
        CHECKS.due(what + ", the next one", b.unit.byteOf(0, 2, 0), 20);
        CHECKS.due(what + ", memory", b.unit.peek(100), 201);
    }

    private static void asLong() {
        for (int given = 0; given <= 6; given++) {
            writeDue(3, given);
        }
    }

    private static void longestAndShortestWritten() {
        writeDue(0, 0);
        writeDue(0, 1);
        writeDue(1, 0);
        writeDue(60, 59);
        writeDue(59, 60);
        Bench b = new Bench();
        b.lay(0, 0, 60);
        for (int from : new int[] {0, 196}) {
            b.bytes(from, 150 + from % 7);
            b.bytes(from + 59, 160 + from % 7);
            CHECKS.due("60 from " + from, b.runAt(0, Bench.WRITE_DATA, from, 60), 0);
            CHECKS.due("first", b.unit.byteOf(0, 1, 0), 150 + from % 7);
            CHECKS.due("last", b.unit.byteOf(0, 1, 59), 160 + from % 7);
        }
    }

    private static void spoiledNoMore() {
        for (int given = 2; given <= 4; given++) {
            Bench b = new Bench();
            b.lay(0, 1, 3, 1, 3);
            b.unit.spoil(0, 1);
            b.unit.spoil(0, 2);
            b.runAt(0, Bench.WRITE_DATA, 100, given);
            CHECKS.due("written with " + given, b.unit.record(0, 1, 3), given == 3 ? 0 : 1);
            CHECKS.due("the next one", b.unit.record(0, 2, 3), 1);
            CHECKS.due("read again", b.runAt(0, Bench.READ_DATA, 100, 3), given == 3 ? 0 : 4);
        }
        Bench b = new Bench();
        b.lay(0, 1, 0);
        b.unit.spoil(0, 1);
        CHECKS.due("no data", b.runAt(0, Bench.WRITE_DATA, 0, 0), 0);
        CHECKS.due("spoiled no more", b.unit.record(0, 1, 3), 0);
    }
}
