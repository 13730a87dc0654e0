/** Promises 8 to 10: record, byteOf and spoil. */
public final class RecordTest {
    private static final Checks CHECKS = new Checks();

    public static void main(String[] args) {
        answers();
        noSuchRecord();
        contents();
        spoiling();
        CHECKS.finish();
    }

    private static Bench laid() {
        Bench b = new Bench();
        b.lay(31, 0, 0, 8, 60, 2, 3);
        return b;
    }

    private static void answers() {
        CountedUnit x = laid().unit;
        int[][] due = {{0, 0, 0}, {20, 8, 60}, {108, 2, 3}};
        for (int k = 1; k <= 3; k++) {
            for (int what = 0; what < 3; what++) {
                CHECKS.due("record " + k + ", " + what, x.record(31, k, what), due[k - 1][what]);
            }
            CHECKS.due("not spoiled " + k, x.record(31, k, 3), 0);
        }
        for (int what : new int[] {-1, 0, 4, Integer.MAX_VALUE}) {
            CHECKS.due("how many, what " + what, x.record(31, 0, what), 3);
            CHECKS.due("how many on another", x.record(0, 0, what), 0);
        }
    }

    private static void noSuchRecord() {
        CountedUnit x = laid().unit;
        for (int track : new int[] {-1, 32, Integer.MIN_VALUE, Integer.MAX_VALUE}) {
            CHECKS.argument("track " + track, () -> x.record(track, 0, 0));
            CHECKS.argument("byte of track " + track, () -> x.byteOf(track, 1, 0));
            CHECKS.argument("spoil on track " + track, () -> spoil(x, track, 1));
        }
        for (int k : new int[] {-1, 4, 31, Integer.MIN_VALUE, Integer.MAX_VALUE}) {
            CHECKS.argument("record " + k, () -> x.record(31, k, 0));
            CHECKS.argument("byte of record " + k, () -> x.byteOf(31, k, 0));
            CHECKS.argument("spoil record " + k, () -> spoil(x, 31, k));
        }
        CHECKS.argument("byte of record 0", () -> x.byteOf(31, 0, 0));
        CHECKS.argument("spoil record 0", () -> spoil(x, 31, 0));
        CHECKS.argument("a record of an empty track", () -> x.record(0, 1, 0));
        for (int what : new int[] {-1, 4, Integer.MIN_VALUE, Integer.MAX_VALUE}) {
            CHECKS.argument("what " + what, () -> x.record(31, 1, what));
        }
    }

    private static void contents() {
        CountedUnit x = laid().unit;
        for (int i = 0; i < 68; i++) {
            CHECKS.due("byte " + i, x.byteOf(31, 2, i), 20 + i);
        }
        CHECKS.due("first byte", x.byteOf(31, 3, 0), 30);
        CHECKS.due("last byte", x.byteOf(31, 3, 4), 34);
        int[][] none = {{1, 0}, {1, -1}, {2, 68}, {2, -1}, {3, 5}, {3, Integer.MAX_VALUE}, {3, Integer.MIN_VALUE}};
        for (int[] pair : none) {
            CHECKS.argument("byte " + pair[1] + " of " + pair[0], () -> x.byteOf(31, pair[0], pair[1]));
        }
        Bench b = new Bench();
        b.bytes(0, 1, 1, 255, 128);
        b.run(Bench.WRITE_RECORD, 0, 0);
        CHECKS.due("without a sign", b.unit.byteOf(0, 1, 0), 255);
        CHECKS.due("without a sign", b.unit.byteOf(0, 1, 1), 128);
    }

    private static void spoiling() {
        CountedUnit x = laid().unit;
        long before = x.clock();
        x.spoil(31, 2);
        x.spoil(31, 2);
        CHECKS.due("spoiled", x.record(31, 2, 3), 1);
        CHECKS.due("only it", x.record(31, 1, 3) + x.record(31, 3, 3), 0);
        CHECKS.due("its bytes stay", x.byteOf(31, 2, 67), 87);
        CHECKS.due("no time", x.clock(), before);
    }

    private static long spoil(CountedUnit x, int track, int k) {
        x.spoil(track, k);
        return 0;
    }
}
