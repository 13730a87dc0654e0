/** Promises 5 and 6: reading, writing, erasing and skipping, statuses and what is looked at then. */
public final class TransferTest {
    private static final Checks CHECKS = new Checks();

    public static void main(String[] args) {
        readKeyAndData();
        readWhere();
        residuals();
        spoiled();
        writeData();
        writeDataOfOtherLength();
        writeRecord();
        writeRecordBehind();
        writeRecordNoRoom();
        eraseAll();
        eraseBehind();
        skip();
        numbersNotSo();
        recordNotInMemory();
        numbersThatDoNotMatter();
        looks();
        wrongLooks();
        CHECKS.finish();
    }

    private static void bytesDue(String what, Bench b, int from, int... due) {
        for (int i = 0; i < due.length; i++) {
            CHECKS.due(what + ", byte " + (from + i), b.unit.peek(from + i), due[i]);
        }
    }

    private static void readKeyAndData() {
        Bench b = new Bench();
        b.lay(0, 3, 2, 1, 4);
        b.turnTo(0);
        CHECKS.due("places", b.time(CHECKS, "key and data", 0, Bench.READ_KEY, 10, 3, Bench.READ_DATA, 20, 2,
            Bench.READ_DATA, 30, 60, Bench.READ_KEY, 40, 60), 50 + 550 + 23);
        bytesDue("key", b, 10, 10, 11, 12, 0);
        bytesDue("data", b, 20, 13, 14, 0);
        bytesDue("next one's data", b, 30, 21, 22, 23, 24, 0);
        bytesDue("key of the first again", b, 40, 10, 11, 12, 0);
        CHECKS.due("residual", b.unit.look(1), 57);
        CHECKS.due("came to records", b.unit.look(5), 2 + 4);
    }

    /** Which record's data a READ DATA behind another command is of. */
    private static void readWhere() {
        int[][] rows = {{Bench.NUMBER, 1, 0, 1}, {Bench.HIGHER, 0, 0, 1}, {Bench.READ_COUNT, 100, 0, 1},
            {Bench.READ_KEY, 100, 9, 1}, {Bench.READ_DATA, 100, 9, 2}, {Bench.SKIP, 0, 0, 1}, {Bench.SKIP, 0, 1, 2},
            {Bench.SEEK, 0, 0, 2}};
        for (int[] row : rows) {
            Bench b = new Bench();
            b.lay(0, 1, 1, 1, 1);
            b.turnTo(0);
            b.run(row[0], row[1], row[2], Bench.SKIP, 0, 0, Bench.READ_DATA, 50, 1);
            CHECKS.due("data behind kind " + row[0], b.unit.peek(50), 10 * row[3] + 1);
        }
        Bench b = new Bench();
        b.lay(0, 1, 1, 1, 1);
        b.turnTo(0);
        b.run(Bench.READ_KEY, 50, 1, Bench.READ_KEY, 51, 1);
        bytesDue("keys", b, 50, 10, 20);
        b.turnTo(0);
        b.run(Bench.HIGHER, 0, 0, Bench.SKIP, 0, 0, Bench.READ_KEY, 60, 1);
        bytesDue("key behind a search of keys", b, 60, 20);
        b.turnTo(0);
        b.run(Bench.NUMBER, 1, 0, Bench.SKIP, 0, 0, Bench.READ_KEY, 70, 1);
        bytesDue("key behind a search of numbers", b, 70, 10);
    }

    private static void residuals() {
        Bench b = new Bench();
        b.lay(0, 4, 6);
        b.turnTo(0);
        CHECKS.due("key too long", b.time(CHECKS, "key", 3, Bench.READ_KEY, 10, 3, Bench.SKIP, 0, 9), 24);
        CHECKS.due("residual", b.unit.look(1), -1);
        CHECKS.due("ended at", b.unit.look(0), 0);
        bytesDue("at most b bytes", b, 10, 10, 11, 12, 0);
        b.turnTo(0);
        CHECKS.due("data too long", b.time(CHECKS, "data", 3, Bench.READ_DATA, 20, 0), 30);
        CHECKS.due("residual", b.unit.look(1), -6);
        bytesDue("no byte", b, 20, 0);
        b.turnTo(0);
        b.bytes(249, 0);
        CHECKS.due("data to the memory's end", b.run(Bench.READ_DATA, 250, 6), 0);
        bytesDue("data", b, 249, 0, 14, 15, 16, 17, 18, 19);
        CHECKS.due("residual", b.unit.look(1), 0);
        b.turnTo(0);
        CHECKS.due("the latest residual", b.run(Bench.READ_KEY, 10, 8, Bench.READ_DATA, 10, 16, Bench.READ_COUNT, 0, 0),
            0);
        CHECKS.due("residual", b.unit.look(1), 10);
        b.run(Bench.SKIP, 0, 1);
        CHECKS.due("none in this run", b.unit.look(1), 0);
    }

    private static void spoiled() {
        Bench b = new Bench();
        b.lay(0, 1, 3);
        b.unit.spoil(0, 1);
        b.turnTo(0);
        CHECKS.due("search and key", b.run(Bench.NUMBER, 1, 0, Bench.SEEK, 99, 0, Bench.READ_KEY, 10, 1), 0);
        bytesDue("key", b, 10, 10);
        b.turnTo(0);
        CHECKS.due("data", b.time(CHECKS, "data", 4, Bench.READ_COUNT, 0, 0, Bench.READ_DATA, 20, 7), 24);
        CHECKS.due("residual", b.unit.look(1), 7);
        CHECKS.due("ended at", b.unit.look(0), 1);
        bytesDue("nothing came", b, 20, 0, 0, 0);
        b.turnTo(0);
        CHECKS.due("before the length", b.run(Bench.READ_DATA, 20, 1), 4);
        CHECKS.due("residual", b.unit.look(1), 1);
        CHECKS.due("it came to it", b.unit.look(5), 4);
    }

    private static void writeData() {
        Bench b = new Bench();
        b.lay(0, 1, 3, 0, 0);
        b.unit.spoil(0, 1);
        b.bytes(253, 91, 92, 93);
        b.turnTo(0);
        CHECKS.due("write", b.time(CHECKS, "write", 0, Bench.WRITE_DATA, 253, 3), 24);
        CHECKS.due("spoiled no more", b.unit.record(0, 1, 3), 0);
        for (int i = 0; i < 4; i++) {
            CHECKS.due("content " + i, b.unit.byteOf(0, 1, i), i == 0 ? 10 : 90 + i);
        }
        CHECKS.due("residual", b.unit.look(1), 0);
        CHECKS.due("came to it", b.unit.look(5), 3);
        b.turnTo(0);
        CHECKS.due("behind data it moves on", b.time(CHECKS, "write", 0, Bench.READ_DATA, 0, 3,
            Bench.WRITE_DATA, 0, 0), 44);
        b.turnTo(0);
        CHECKS.due("behind a key it stays", b.time(CHECKS, "write", 0, Bench.READ_KEY, 0, 3,
            Bench.WRITE_DATA, 0, 3), 24);
    }

    private static void writeDataOfOtherLength() {
        for (int length : new int[] {0, 2, 4, 60}) {
            Bench b = new Bench();
            b.lay(0, 1, 3);
            b.unit.spoil(0, 1);
            b.turnTo(0);
            CHECKS.due("places", b.time(CHECKS, "write " + length, 3, Bench.WRITE_DATA, 0, length), 24);
            CHECKS.due("residual", b.unit.look(1), length - 3);
            CHECKS.due("still spoiled", b.unit.record(0, 1, 3), 1);
            CHECKS.due("length", b.unit.record(0, 1, 2), 3);
            CHECKS.due("content", b.unit.byteOf(0, 1, 1), 11);
            CHECKS.due("came to it", b.unit.look(5), 2);
        }
    }

    private static void writeRecord() {
        Bench b = new Bench();
        b.lay(5, 1, 1, 1, 1);
        b.bytes(0, 2, 3, 70, 71, 72, 73, 74);
        b.turnTo(1);
        CHECKS.due("to place 0", b.time(CHECKS, "write", 0, Bench.WRITE_RECORD, 0, -1), 599 + 25);
        CHECKS.due("all others are gone", b.unit.record(5, 0, 0), 1);
        CHECKS.due("key", b.unit.record(5, 1, 1), 2);
        CHECKS.due("data", b.unit.record(5, 1, 2), 3);
        for (int i = 0; i < 5; i++) {
            CHECKS.due("content " + i, b.unit.byteOf(5, 1, i), 70 + i);
        }
        b.unit.spoil(5, 1);
        b.turnTo(0);
        CHECKS.due("at place 0 it stays", b.time(CHECKS, "write", 0, Bench.WRITE_RECORD, 0, 0), 25);
        CHECKS.due("a new one is not spoiled", b.unit.record(5, 1, 3), 0);
        CHECKS.due("wrote", b.unit.look(5), 4);
        b.turnTo(0);
        CHECKS.due("oriented behind its data", b.time(CHECKS, "write", 0, Bench.WRITE_RECORD, 0, 0,
            Bench.READ_KEY, 50, 2), 622);
        b.turnTo(1);
        CHECKS.due("index", b.time(CHECKS, "write", 0, Bench.WRITE_RECORD, 0, 0), 624);
        CHECKS.due("index", b.unit.look(3), 1);
    }

    private static void writeRecordBehind() {
        int[][] before = {{Bench.NUMBER, 2, 0}, {Bench.READ_COUNT, 100, 0}, {Bench.READ_KEY, 100, 9},
            {Bench.READ_DATA, 100, 9}};
        for (int[] command : before) {
            Bench b = new Bench();
            b.lay(0, 1, 1, 1, 1, 1, 1, 1, 1);
            b.bytes(0, 0, 0);
            b.turnTo(22);
            CHECKS.due("places", b.time(CHECKS, "write behind", 0, command[0], command[1], command[2], 11, 0, 0,
                Bench.WRITE_RECORD, 0, 0), 42);
            CHECKS.due("records", b.unit.record(0, 0, 0), 3);
            CHECKS.due("it begins", b.unit.record(0, 3, 0), 44);
            CHECKS.due("the one before stays", b.unit.byteOf(0, 2, 1), 21);
        }
    }

    private static void writeRecordNoRoom() {
        Bench b = new Bench();
        b.lay(0, 8, 60, 8, 60, 8, 60, 8, 60, 8, 60, 8, 60);
        b.bytes(0, 8, 45);
        b.turnTo(440);
        CHECKS.due("one place too much", b.time(CHECKS, "write", 5, Bench.READ_COUNT, 100, 0,
            Bench.WRITE_RECORD, 0, 0, Bench.SKIP, 0, 1), 88);
        CHECKS.due("records", b.unit.record(0, 0, 0), 6);
        CHECKS.due("wrote", b.unit.look(5), 6);
        CHECKS.due("begun", b.unit.look(2), 2);
        b.bytes(0, 8, 44);
        b.turnTo(440);
        CHECKS.due("just the room", b.time(CHECKS, "write", 0, Bench.READ_COUNT, 100, 0, Bench.WRITE_RECORD, 0, 0),
            160);
        CHECKS.due("records", b.unit.record(0, 0, 0), 7);
        b.turnTo(440);
        b.bytes(0, 8, 60);
        CHECKS.due("no room keeps those behind", b.run(Bench.READ_COUNT, 100, 0, Bench.WRITE_RECORD, 0, 0), 5);
        CHECKS.due("records", b.unit.record(0, 0, 0), 7);
    }

    private static void eraseAll() {
        Bench b = new Bench();
        b.lay(2, 1, 1, 1, 1);
        b.turnTo(0);
        CHECKS.due("at place 0", b.time(CHECKS, "erase", 0, Bench.ERASE, -1, -1), 5);
        CHECKS.due("records", b.unit.record(2, 0, 0), 0);
        CHECKS.due("at place 5", b.time(CHECKS, "erase", 0, Bench.ERASE, 0, 0), 600);
        CHECKS.due("it writes no record", b.unit.look(5), 2);
    }

    private static void eraseBehind() {
        Bench b = new Bench();
        b.lay(2, 1, 1, 1, 10, 1, 1);
        b.turnTo(22);
        CHECKS.due("behind the second", b.time(CHECKS, "erase", 0, Bench.READ_COUNT, 0, 0, Bench.ERASE, 0, 0), 36);
        CHECKS.due("records", b.unit.record(2, 0, 0), 2);
        b.turnTo(0);
        CHECKS.due("not oriented then", b.time(CHECKS, "erase", 0, Bench.READ_COUNT, 0, 0, Bench.ERASE, 0, 0,
            Bench.ERASE, 0, 0), 605);
        CHECKS.due("records", b.unit.record(2, 0, 0), 0);
    }

    private static void skip() {
        Bench b = new Bench();
        CHECKS.due("0", b.time(CHECKS, "skip", 0, Bench.SKIP, 0, 0), 0);
        CHECKS.due("1", b.time(CHECKS, "skip", 0, Bench.SKIP, -7, 1), 1);
        CHECKS.due("600", b.time(CHECKS, "skip", 0, Bench.SKIP, 999, 600), 600);
        CHECKS.due("index", b.unit.look(3), 1);
        CHECKS.due("to the index", b.time(CHECKS, "skip", 0, Bench.SKIP, 0, 599), 599);
        CHECKS.due("index", b.unit.look(3), 1);
        CHECKS.due("clock", b.unit.clock(), 1200);
        for (int places : new int[] {-1, 601, Integer.MIN_VALUE, Integer.MAX_VALUE}) {
            CHECKS.due("no time", b.time(CHECKS, "skip " + places, 2, Bench.SKIP, 0, places), 0);
            CHECKS.due("begun", b.unit.look(2), 0);
        }
    }

    private static void notSo(Bench b, int kind, int a, int second) {
        CHECKS.due("no time", b.time(CHECKS, kind + " with " + a + ", " + second, 2, kind, a, second), 0);
        CHECKS.due("begun", b.unit.look(2), 0);
        CHECKS.due("ended at", b.unit.look(0), 0);
    }

    private static void so(Bench b, int kind, int a, int second) {
        b.turnTo(0);
        int status = b.run(kind, a, second);
        CHECKS.due(kind + " with " + a + ", " + second + " is begun", b.unit.look(2), 1);
        CHECKS.due(kind + " with " + a + ", " + second + " is not status 2", status == 2 ? 1 : 0, 0);
    }

    private static void numbersNotSo() {
        for (int kind : new int[] {2, 3, 6, 7, 8}) {
            Bench b = new Bench();
            b.lay(0, 1, 1);
            int most = kind < 4 ? 8 : 60;
            so(b, kind, 0, 0);
            so(b, kind, 0, most);
            so(b, kind, 255, 0);
            so(b, kind, 255, 1);
            so(b, kind, 256 - most, most);
            notSo(b, kind, 0, -1);
            notSo(b, kind, 0, most + 1);
            notSo(b, kind, 0, Integer.MAX_VALUE);
            notSo(b, kind, 0, Integer.MIN_VALUE);
            notSo(b, kind, 255, 2);
            notSo(b, kind, 257 - most, most);
            notSo(b, kind, 256, 0);
            notSo(b, kind, -1, 1);
            notSo(b, kind, -1, 0);
            notSo(b, kind, Integer.MAX_VALUE, most);
            notSo(b, kind, Integer.MIN_VALUE, most);
        }
    }

    private static void recordNotInMemory() {
        Bench b = new Bench();
        notSo(b, Bench.WRITE_RECORD, 255, 0);
        notSo(b, Bench.WRITE_RECORD, 256, 0);
        notSo(b, Bench.WRITE_RECORD, -1, 0);
        notSo(b, Bench.WRITE_RECORD, Integer.MAX_VALUE, 0);
        notSo(b, Bench.WRITE_RECORD, Integer.MIN_VALUE, 0);
        so(b, Bench.WRITE_RECORD, 254, 0);
        b.bytes(10, 9, 0);
        notSo(b, Bench.WRITE_RECORD, 10, 0);
        b.bytes(10, 0, 61);
        notSo(b, Bench.WRITE_RECORD, 10, 0);
        b.bytes(10, 255, 255);
        notSo(b, Bench.WRITE_RECORD, 10, 0);
        b.bytes(10, 8, 60);
        so(b, Bench.WRITE_RECORD, 10, 0);
        b.bytes(186, 8, 60);
        so(b, Bench.WRITE_RECORD, 186, 0);
        b.bytes(187, 8, 60);
        notSo(b, Bench.WRITE_RECORD, 187, 0);
        b.bytes(250, 1, 4);
        notSo(b, Bench.WRITE_RECORD, 250, 0);
        b.bytes(250, 1, 3);
        so(b, Bench.WRITE_RECORD, 250, 0);
        CHECKS.due("wrote", b.unit.look(5), 4);
        CHECKS.due("content", b.unit.record(0, 1, 2), 3);
    }

    private static void numbersThatDoNotMatter() {
        int far = Integer.MAX_VALUE;
        Bench b = new Bench();
        b.lay(0, 1, 1);
        so(b, Bench.SEEK, 0, far);
        so(b, Bench.NUMBER, far, far);
        so(b, Bench.NUMBER, -far, -far);
        so(b, Bench.READ_COUNT, 252, far);
        so(b, Bench.SKIP, far, 0);
        so(b, Bench.ERASE, -far, far);
        so(b, Bench.WRITE_RECORD, 0, -far);
    }

    private static void looks() {
        Bench b = new Bench();
        b.lay(7, 1, 1, 1, 1);
        b.turnTo(1);
        b.run(Bench.SEEK, 9, 0, Bench.SEEK, 7, 0, Bench.SKIP, 0, 600, Bench.READ_DATA, 0, 9, Bench.SEEK, 32, 0);
        CHECKS.due("ended at", b.unit.look(0), 4);
        CHECKS.due("residual", b.unit.look(1), 8);
        CHECKS.due("begun", b.unit.look(2), 4);
        CHECKS.due("index", b.unit.look(3), 2);
        CHECKS.due("head", b.unit.look(4), 7);
        CHECKS.due("transfers", b.unit.look(5), 3);
        b.unit.command(-1, 0, 0);
        CHECKS.due("still of the latest run", b.unit.look(0), 4);
        CHECKS.due("a run of nothing", b.unit.start(), 0);
        for (int what = 0; what < 4; what++) {
            CHECKS.due("look " + what + " behind nothing", b.unit.look(what), 0);
        }
        CHECKS.due("head stays", b.unit.look(4), 7);
        CHECKS.due("ever", b.unit.look(5), 3);
        b.run(Bench.SKIP, 0, 0, Bench.SKIP, 0, 0);
        b.unit.command(Bench.SKIP, 0, 0);
        CHECKS.due("how many there were", b.unit.look(0), 2);
    }

    private static void wrongLooks() {
        CountedUnit x = new CountedUnit();
        for (int what : new int[] {-1, 6, Integer.MIN_VALUE, Integer.MAX_VALUE}) {
            CHECKS.argument("look " + what, () -> x.look(what));
        }
    }
}
