/** The edges that the document names in promises 8 to 10: record, byteOf and spoil. */
public final class RecordEdgesTest {
    private static final Checks CHECKS = new Checks();
    private static final int[] NO_TRACKS = {-1, 32, 33, Integer.MIN_VALUE, Integer.MAX_VALUE};
    private static final int[] FAR = {Integer.MIN_VALUE, Integer.MAX_VALUE};

    public static void main(String[] args) {
        Sentences sentences = new Sentences(CHECKS);
        sentences.of("Promise 8:", "How many records a track has (k 0, what does not matter)",
            RecordEdgesTest::howMany);
        sentences.of("Promise 8:", "or of record k what 0 its beginning, 1 its key's length, 2 its data's, 3 whether it"
            + " is spoiled (1, 0).", RecordEdgesTest::whatItIs);
        sentences.of("Promise 8:", "IllegalArgumentException: no such track, record or what.",
            RecordEdgesTest::noSuchTrack, RecordEdgesTest::noSuchRecord, RecordEdgesTest::noSuchWhat,
            RecordEdgesTest::recordsThatAreGone);
        sentences.of("Promise 9:", "Byte i (0 .. 255) of record k's key and data, one behind the other.",
            RecordEdgesTest::bytes, RecordEdgesTest::values);
        sentences.of("Promise 9:", "IllegalArgumentException: there is none such.", RecordEdgesTest::noSuchByte);
        sentences.of("Promise 10:", "Record k is spoiled (also if it is).", RecordEdgesTest::spoiled);
        sentences.of("Promise 10:", "IllegalArgumentException: there is none such.",
            RecordEdgesTest::noSuchRecordToSpoil);
        sentences.finish();
    }

    /** Records on the first and the last track. */
    private static CountedUnit laid() {
        Bench b = new Bench();
        b.lay(0, 0, 0, 8, 60, 2, 3);
        b.lay(31, 1, 0);
        return b.unit;
    }

    private static void howMany() {
        CountedUnit x = laid();
        for (int what : new int[] {0, 3, -1, 4, Integer.MIN_VALUE, Integer.MAX_VALUE}) {
            CHECKS.due("first track, what " + what, x.record(0, 0, what), 3);
            CHECKS.due("track 1, what " + what, x.record(1, 0, what), 0);
            CHECKS.due("last track, what " + what, x.record(31, 0, what), 1);
        }
        Bench full = new Bench();
        full.layThirty();
        CHECKS.due("a full track", full.unit.record(0, 0, 9), 30);
    }

    private static void whatItIs() {
        CountedUnit x = laid();
        int[][] due = {{0, 0, 0, 0}, {20, 8, 60, 0}, {108, 2, 3, 0}};
        for (int k = 1; k <= 3; k++) {
            for (int what = 0; what <= 3; what++) {
                CHECKS.due("record " + k + ", what " + what, x.record(0, k, what), due[k - 1][what]);
            }
        }
        x.spoil(0, 2);
        CHECKS.due("spoiled", x.record(0, 2, 3), 1);
        CHECKS.due("the one before is not", x.record(0, 1, 3), 0);
        CHECKS.due("the one behind is not", x.record(0, 3, 3), 0);
        CHECKS.due("its beginning stays", x.record(0, 2, 0), 20);
        int[] last = {0, 1, 0, 0};
        for (int what = 0; what <= 3; what++) {
            CHECKS.due("last track, what " + what, x.record(31, 1, what), last[what]);
        }
        Bench full = new Bench();
        full.layThirty();
        CHECKS.due("beginning of the thirtieth", full.unit.record(0, 30, 0), 580);
        CHECKS.due("its key", full.unit.record(0, 30, 1), 0);
        CHECKS.due("its data", full.unit.record(0, 30, 2), 0);
    }

    private static void noSuchTrack() {
        CountedUnit x = laid();
        for (int track : NO_TRACKS) {
            CHECKS.argument("how many on " + track, () -> x.record(track, 0, 0));
            CHECKS.argument("the first on " + track, () -> x.record(track, 1, 0));
        }
        CHECKS.due("the first one on the first", x.record(0, 1, 0), 0);
        CHECKS.due("the first one on the last", x.record(31, 1, 1), 1);
    }

    private static void noSuchRecord() {
        CountedUnit x = laid();
        for (int k : new int[] {-1, 4, 30, 31, FAR[0], FAR[1]}) {
            CHECKS.argument("record " + k, () -> x.record(0, k, 0));
        }
        CHECKS.argument("the second of one", () -> x.record(31, 2, 0));
        CHECKS.argument("the first of none", () -> x.record(1, 1, 0));
        Bench full = new Bench();
        full.layThirty();
        CHECKS.argument("31 of a full track", () -> full.unit.record(0, 31, 0));
        CHECKS.argument("32 of a full track", () -> full.unit.record(0, 32, 0));
    }

    private static void noSuchWhat() {
        CountedUnit x = laid();
        for (int what : new int[] {-1, 4, 5, FAR[0], FAR[1]}) {
            CHECKS.argument("what " + what, () -> x.record(0, 1, what));
            CHECKS.argument("of the last one, what " + what, () -> x.record(0, 3, what));
        }
    }

    private static void recordsThatAreGone() {
        Bench b = new Bench();
        b.lay(0, 1, 1, 1, 1);
        b.runAt(0, Bench.READ_COUNT, 100, 0, Bench.ERASE, 0, 0);
        CHECKS.due("the first stays", b.unit.record(0, 1, 1), 1);
        CHECKS.argument("the second is gone", () -> b.unit.record(0, 2, 1));
        CHECKS.argument("so is its byte", () -> b.unit.byteOf(0, 2, 0));
        CHECKS.argumentOf("it can't be spoiled", () -> b.unit.spoil(0, 2));
        b.unit.allocate(0, 1);
        CHECKS.argument("the first is gone", () -> b.unit.record(0, 1, 1));
        CHECKS.due("how many", b.unit.record(0, 0, 0), 0);
    }

    private static void bytes() {
        CountedUnit x = laid();
        for (int i = 0; i < 68; i++) {
            CHECKS.due("byte " + i, x.byteOf(0, 2, i), 20 + i);
        }
        for (int i = 0; i < 5; i++) {
            CHECKS.due("byte " + i + " of the third", x.byteOf(0, 3, i), 30 + i);
        }
        CHECKS.due("the last track's", x.byteOf(31, 1, 0), 10);
        Bench b = new Bench();
        b.lay(0, 0, 2, 2, 0);
        CHECKS.due("no key: first of the data", b.unit.byteOf(0, 1, 0), 10);
        CHECKS.due("no key: last of the data", b.unit.byteOf(0, 1, 1), 11);
        CHECKS.due("no data: first of the key", b.unit.byteOf(0, 2, 0), 20);
        CHECKS.due("no data: last of the key", b.unit.byteOf(0, 2, 1), 21);
    }

    private static void values() {
        Bench b = new Bench();
        int[] values = {0, 1, 127, 128, 254, 255};
        b.bytes(0, 3, 3);
        b.bytes(2, values);
        b.run(Bench.WRITE_RECORD, 0, 0);
        for (int i = 0; i < 6; i++) {
            CHECKS.due("byte " + i, b.unit.byteOf(0, 1, i), values[i]);
        }
        b.unit.spoil(0, 1);
        CHECKS.due("also of a spoiled one", b.unit.byteOf(0, 1, 5), 255);
    }

    private static void noSuchByte() {
        CountedUnit x = laid();
        int[][] none = {{1, 0}, {1, -1}, {1, 1}, {2, -1}, {2, 68}, {2, 69}, {3, -1}, {3, 5}, {2, FAR[0]}, {2, FAR[1]}};
        for (int[] pair : none) {
            CHECKS.argument("byte " + pair[1] + " of record " + pair[0], () -> x.byteOf(0, pair[0], pair[1]));
        }
        CHECKS.argument("byte 1 of the last track", () -> x.byteOf(31, 1, 1));
        for (int k : new int[] {-1, 0, 4, FAR[0], FAR[1]}) {
            CHECKS.argument("byte of record " + k, () -> x.byteOf(0, k, 0));
        }
        for (int track : NO_TRACKS) {
            CHECKS.argument("byte on track " + track, () -> x.byteOf(track, 1, 0));
        }
        CHECKS.argument("byte on an empty track", () -> x.byteOf(1, 1, 0));
        Bench full = new Bench();
        full.layThirty();
        CHECKS.argument("byte of a record of none", () -> full.unit.byteOf(0, 30, 0));
    }

    private static void spoiled() {
        CountedUnit x = laid();
        for (int k : new int[] {1, 3}) {
            CHECKS.due("not yet", x.record(0, k, 3), 0);
            x.spoil(0, k);
            CHECKS.due("now", x.record(0, k, 3), 1);
            x.spoil(0, k);
            CHECKS.due("also if it is", x.record(0, k, 3), 1);
        }
        CHECKS.due("not the one between", x.record(0, 2, 3), 0);
        x.spoil(31, 1);
        CHECKS.due("the last track's", x.record(31, 1, 3), 1);
        CHECKS.due("they are as many as before", x.record(0, 0, 0), 3);
        Bench full = new Bench();
        full.layThirty();
        full.unit.spoil(0, 30);
        CHECKS.due("the thirtieth", full.unit.record(0, 30, 3), 1);
        CHECKS.due("the one before", full.unit.record(0, 29, 3), 0);
    }

    private static void noSuchRecordToSpoil() {
        CountedUnit x = laid();
        for (int k : new int[] {-1, 0, 4, 30, 31, FAR[0], FAR[1]}) {
            CHECKS.argumentOf("spoil record " + k, () -> x.spoil(0, k));
        }
        for (int track : NO_TRACKS) {
            CHECKS.argumentOf("spoil on track " + track, () -> x.spoil(track, 1));
        }
        CHECKS.argumentOf("spoil on an empty track", () -> x.spoil(1, 1));
        CHECKS.argumentOf("spoil the second of one", () -> x.spoil(31, 2));
        for (int k = 1; k <= 3; k++) {
            CHECKS.due("none was spoiled", x.record(0, k, 3), 0);
        }
    }
}
