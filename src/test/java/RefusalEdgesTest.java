/** The edges that the document names in promise 5: numbers that are not so, and too many commands. */
public final class RefusalEdgesTest {
    private static final Checks CHECKS = new Checks();
    private static final int LEAST = Integer.MIN_VALUE;
    private static final int MOST = Integer.MAX_VALUE;

    public static void main(String[] args) {
        Sentences sentences = new Sentences(CHECKS);
        sentences.of("Terms", "Status 2, nothing is done", RefusalEdgesTest::nothingIsDone);
        sentences.of("Terms", "SEEK of no track", RefusalEdgesTest::seekOfNoTrack);
        sentences.of("Terms", "b that is not so (2, 3: 0 .. 8; 6, 7, 8: 0 .. 60; 11: 0 .. 600)",
            RefusalEdgesTest::searchLengths, RefusalEdgesTest::transferLengths, RefusalEdgesTest::skipLengths);
        sentences.of("Terms", "a that is no place of the memory", RefusalEdgesTest::noPlaceOfTheMemory);
        sentences.of("Terms", "or what is read or written there goes beyond it (b, ", RefusalEdgesTest::beyondTheMemory);
        sentences.of("Terms", "of 5: four bytes", RefusalEdgesTest::fourBytes);
        sentences.of("Terms", "of 9: both lengths", RefusalEdgesTest::bothLengths);
        sentences.of("Terms", "which are 0 .. 8 and 0 .. 60, and what they tell", RefusalEdgesTest::whatLengthsAre,
            RefusalEdgesTest::whatLengthsTell);
        sentences.of("Terms", "a BACK that can't be", RefusalEdgesTest::backThatCannotBe);
        sentences.of("Terms", "Status 6: 400 commands were done, and there is one more",
            RefusalEdgesTest::fourHundred, RefusalEdgesTest::fourHundredAndOneMore,
            RefusalEdgesTest::endlessProgram, RefusalEdgesTest::statusOfTheFourHundredth,
            RefusalEdgesTest::passedOverAreNotDone);
        sentences.of("Terms", "(looked at before its numbers)", RefusalEdgesTest::beforeItsNumbers);
        sentences.finish();
    }

    /** Two records of key 2 and data 3, and bytes in the memory that are the lengths of such ones. */
    private static Bench bench() {
        Bench b = new Bench();
        b.lay(0, 2, 3, 2, 3);
        b.bytes(0, 2, 3);
        b.turnTo(0);
        return b;
    }

    private static void refused(Bench b, int kind, int a, int second) {
        String what = "kind " + kind + " with " + a + ", " + second;
        CHECKS.due(what + ", time", b.time(CHECKS, what, 2, kind, a, second), 0);
        CHECKS.due(what + ", ended at", b.unit.look(0), 0);
        CHECKS.due(what + ", begun", b.unit.look(2), 0);
    }

    private static void begun(int kind, int a, int second) {
        Bench b = bench();
        String what = "kind " + kind + " with " + a + ", " + second;
        CHECKS.so(what + " is not status 2", b.run(kind, a, second) != 2);
        CHECKS.due(what + ", begun", b.unit.look(2), 1);
    }

    /** Behind a READ DATA with residual 7: neither clock, head, memory, records nor what is looked at change. */
    private static void nothingIsDone() {
        int[][] wrong = {{Bench.SEEK, 32, 0}, {Bench.KEY, 100, 9}, {Bench.HIGHER, 256, 0}, {Bench.BACK, 0, 0},
            {Bench.READ_COUNT, 253, 0}, {Bench.READ_KEY, 100, 61}, {Bench.READ_DATA, 255, 2},
            {Bench.WRITE_DATA, 255, 3}, {Bench.WRITE_RECORD, 255, 0}, {Bench.SKIP, 0, 601}};
        for (int[] command : wrong) {
            Bench b = bench();
            String what = "kind " + command[0];
            int before = b.unit.look(5);
            b.unit.spoil(0, 2);
            CHECKS.due(what + ", time", b.time(CHECKS, what, 2, Bench.READ_DATA, 100, 10, command[0], command[1],
                command[2], Bench.ERASE, 0, 0), 25);
            CHECKS.due(what + ", ended at", b.unit.look(0), 1);
            CHECKS.due(what + ", residual", b.unit.look(1), 7);
            CHECKS.due(what + ", begun", b.unit.look(2), 1);
            CHECKS.due(what + ", index", b.unit.look(3), 0);
            CHECKS.due(what + ", head", b.unit.look(4), 0);
            CHECKS.due(what + ", came to", b.unit.look(5) - before, 1);
            CHECKS.due(what + ", records", b.unit.record(0, 0, 0), 2);
            CHECKS.due(what + ", spoiled", b.unit.record(0, 2, 3), 1);
            CHECKS.due(what + ", memory", b.unit.peek(103), 0);
            CHECKS.due(what + ", memory's end", b.unit.peek(255), 24);
        }
    }

    private static void seekOfNoTrack() {
        for (int track : new int[] {-1, 32, 33, 256, LEAST, MOST}) {
            Bench b = new Bench();
            b.run(Bench.SEEK, 7, 0);
            refused(b, Bench.SEEK, track, 0);
            CHECKS.due("head", b.unit.look(4), 7);
        }
        for (int track : new int[] {0, 1, 30, 31}) {
            begun(Bench.SEEK, track, LEAST);
        }
    }

    private static void searchLengths() {
        for (int kind : new int[] {Bench.KEY, Bench.HIGHER}) {
            for (int length : new int[] {-1, 9, 60, 256, LEAST, MOST}) {
                refused(bench(), kind, 100, length);
            }
            for (int length : new int[] {0, 1, 7, 8}) {
                begun(kind, 100, length);
            }
        }
    }

    private static void transferLengths() {
        for (int kind : new int[] {Bench.READ_KEY, Bench.READ_DATA, Bench.WRITE_DATA}) {
            for (int length : new int[] {-1, 61, 256, LEAST, MOST}) {
                refused(bench(), kind, 100, length);
            }
            for (int length : new int[] {0, 1, 8, 9, 59, 60}) {
                begun(kind, 100, length);
            }
        }
    }

    private static void skipLengths() {
        for (int places : new int[] {-1, 601, LEAST, MOST}) {
            refused(bench(), Bench.SKIP, 0, places);
        }
        for (int places : new int[] {0, 1, 599, 600}) {
            begun(Bench.SKIP, 0, places);
            begun(Bench.SKIP, MOST, places);
        }
    }

    private static void noPlaceOfTheMemory() {
        int[] kinds = {Bench.KEY, Bench.HIGHER, Bench.READ_COUNT, Bench.READ_KEY, Bench.READ_DATA, Bench.WRITE_DATA,
            Bench.WRITE_RECORD};
        for (int kind : kinds) {
            for (int a : new int[] {-1, 256, LEAST, MOST, -8, 512}) {
                refused(bench(), kind, a, 0);
            }
            begun(kind, 0, 0);
            begun(kind, 100, 0);
        }
        for (int kind : new int[] {Bench.KEY, Bench.HIGHER, Bench.READ_KEY, Bench.READ_DATA, Bench.WRITE_DATA}) {
            begun(kind, 255, 0);
            refused(bench(), kind, -1, 1);
            refused(bench(), kind, MOST, 8);
        }
        for (int kind : new int[] {Bench.NUMBER, Bench.ERASE, Bench.SKIP}) {
            begun(kind, -1, 0);
            begun(kind, 256, 0);
        }
    }

    private static void beyondTheMemory() {
        for (int kind : new int[] {Bench.KEY, Bench.HIGHER}) {
            for (int length = 1; length <= 8; length++) {
                begun(kind, 256 - length, length);
                refused(bench(), kind, 257 - length, length);
            }
        }
        for (int kind : new int[] {Bench.READ_KEY, Bench.READ_DATA, Bench.WRITE_DATA}) {
            for (int length : new int[] {1, 2, 3, 59, 60}) {
                begun(kind, 256 - length, length);
                refused(bench(), kind, 257 - length, length);
            }
        }
    }

    private static void fourBytes() {
        begun(Bench.READ_COUNT, 0, 0);
        begun(Bench.READ_COUNT, 251, MOST);
        begun(Bench.READ_COUNT, 252, LEAST);
        for (int a = 253; a <= 256; a++) {
            refused(bench(), Bench.READ_COUNT, a, 0);
        }
        refused(bench(), Bench.READ_COUNT, -1, 0);
    }

    private static void bothLengths() {
        Bench b = new Bench();
        CHECKS.due("at 254 and 255", b.run(Bench.WRITE_RECORD, 254, 0), 0);
        refused(b, Bench.WRITE_RECORD, 255, 0);
        refused(b, Bench.WRITE_RECORD, 256, 0);
        refused(b, Bench.WRITE_RECORD, -1, 0);
        CHECKS.due("at 0 and 1", b.run(Bench.WRITE_RECORD, 0, 0), 0);
    }

    private static void whatLengthsAre() {
        int[][] keyDataStatus = {{0, 0, 0}, {8, 0, 0}, {9, 0, 2}, {0, 60, 0}, {0, 61, 2}, {8, 60, 0}, {9, 61, 2},
            {255, 0, 2}, {0, 255, 2}, {255, 255, 2}};
        for (int[] row : keyDataStatus) {
            Bench b = new Bench();
            b.bytes(10, row[0], row[1]);
            CHECKS.due("key " + row[0] + ", data " + row[1], b.run(Bench.WRITE_RECORD, 10, 0), row[2]);
            CHECKS.due("time", b.unit.clock(), row[2] == 0 ? 20 + row[0] + row[1] : 0);
        }
    }

    private static void whatLengthsTell() {
        int[][] placeKeyDataStatus = {{186, 8, 60, 0}, {187, 8, 60, 2}, {253, 1, 0, 0}, {254, 1, 0, 2}, {253, 0, 1, 0},
            {254, 0, 1, 2}, {250, 2, 2, 0}, {250, 2, 3, 2}, {250, 3, 2, 2}, {246, 8, 0, 0}, {247, 8, 0, 2},
            {194, 0, 60, 0}, {195, 0, 60, 2}};
        for (int[] row : placeKeyDataStatus) {
            Bench b = new Bench();
            b.bytes(row[0], row[1], row[2]);
            String what = "at " + row[0] + ", key " + row[1] + ", data " + row[2];
            CHECKS.due(what, b.run(Bench.WRITE_RECORD, row[0], 0), row[3]);
            CHECKS.due(what + ", records", b.unit.record(0, 0, 0), row[3] == 0 ? 1 : 0);
        }
        Bench b = new Bench();
        b.bytes(250, 2, 2, 61, 62, 63, 64);
        b.run(Bench.WRITE_RECORD, 250, 0);
        for (int i = 0; i < 4; i++) {
            CHECKS.due("byte " + i, b.unit.byteOf(0, 1, i), 61 + i);
        }
    }

    private static void backThatCannotBe() {
        refused(bench(), Bench.BACK, 0, 0);
        for (int a : new int[] {LEAST, -1, 2, MOST}) {
            Bench b = bench();
            CHECKS.due("back to " + a, b.time(CHECKS, "back", 2, Bench.NUMBER, 9, 0, Bench.BACK, a, 0), 20);
            CHECKS.due("begun", b.unit.look(2), 1);
        }
        Bench b = bench();
        CHECKS.due("back to 0", b.run(Bench.NUMBER, 2, 0, Bench.BACK, 0, 0), 0);
        CHECKS.due("begun", b.unit.look(2), 3);
        b = bench();
        CHECKS.due("to 0, but behind no search", b.run(Bench.SKIP, 0, 0, Bench.BACK, 0, 0), 2);
        CHECKS.due("begun", b.unit.look(2), 1);
    }

    /**
     * Adds so many commands that go back to their first one, until the search among them has come to so
     * many records: rounds * commands - 1 of them are done, as the last BACK is passed over. The track has
     * thirty records; the one to be found is the rounds-th behind the one that was found before.
     */
    private static void addLoop(Bench b, int before, int commands, int number) {
        for (int i = 0; i < commands - 2; i++) {
            b.unit.command(Bench.SKIP, 0, 0);
        }
        b.unit.command(Bench.NUMBER, number, 0);
        b.unit.command(Bench.BACK, before, 0);
    }

    /** 30 * 8 - 1 + 23 * 7 - 1 = 399 commands, fifteen in the program. */
    private static Bench doing399() {
        Bench b = new Bench();
        b.layThirty();
        b.turnTo(0);
        b.unit.command(-1, 0, 0);
        addLoop(b, 0, 8, 30);
        addLoop(b, 8, 7, 23);
        return b;
    }

    /** 30 * 9 - 1 + 22 * 6 - 1 = 400 commands, fifteen in the program. */
    private static Bench doing400() {
        Bench b = new Bench();
        b.layThirty();
        b.turnTo(0);
        b.unit.command(-1, 0, 0);
        addLoop(b, 0, 9, 30);
        addLoop(b, 9, 6, 22);
        return b;
    }

    private static void fourHundred() {
        Bench b = doing399();
        CHECKS.due("399", b.unit.start(), 0);
        CHECKS.due("begun", b.unit.look(2), 399);
        b = doing399();
        b.unit.command(Bench.SKIP, 0, 1);
        long before = b.unit.clock();
        CHECKS.due("399 and one more", b.unit.start(), 0);
        CHECKS.due("begun", b.unit.look(2), 400);
        CHECKS.due("ended behind the last", b.unit.look(0), 16);
        CHECKS.due("it is done", b.unit.clock() - before, 53 * 20 + 1);
        b = doing400();
        CHECKS.due("400", b.unit.start(), 0);
        CHECKS.due("begun", b.unit.look(2), 400);
        CHECKS.due("ended behind the last", b.unit.look(0), 15);
    }

    private static void fourHundredAndOneMore() {
        Bench b = doing400();
        b.unit.command(Bench.SKIP, 0, 1);
        long before = b.unit.clock();
        CHECKS.due("400 and one more", b.unit.start(), 6);
        CHECKS.due("begun", b.unit.look(2), 400);
        CHECKS.due("ended at it", b.unit.look(0), 15);
        CHECKS.due("it is not done", b.unit.clock() - before, 52 * 20);
        CHECKS.due("the next run begins anew", b.run(Bench.SKIP, 0, 1), 0);
        CHECKS.due("begun", b.unit.look(2), 1);
    }

    /** A SEEK in each round keeps the index from ending it. */
    private static void endlessProgram() {
        for (int before = 0; before <= 3; before++) {
            Bench b = new Bench();
            b.layThirty();
            b.unit.command(-1, 0, 0);
            for (int i = 0; i < before; i++) {
                b.unit.command(Bench.SKIP, 0, 0);
            }
            b.unit.command(Bench.SEEK, 0, 0);
            b.unit.command(Bench.NUMBER, 31, 0);
            b.unit.command(Bench.BACK, before, 0);
            CHECKS.due("behind " + before, b.unit.start(), 6);
            CHECKS.due("begun", b.unit.look(2), 400);
            CHECKS.due("ended at", b.unit.look(0), before + (400 - before) % 3);
        }
    }

    private static void statusOfTheFourHundredth() {
        Bench b = doing399();
        b.unit.command(Bench.READ_DATA, 100, 60);
        CHECKS.due("a residual", b.unit.start(), 0);
        CHECKS.due("residual", b.unit.look(1), 60);
        b = doing399();
        b.unit.command(Bench.WRITE_DATA, 100, 1);
        CHECKS.due("other length", b.unit.start(), 3);
        CHECKS.due("begun", b.unit.look(2), 400);
        CHECKS.due("ended at", b.unit.look(0), 15);
    }

    /** The last BACK of 400 commands is passed over: it is not one more. */
    private static void passedOverAreNotDone() {
        Bench b = new Bench();
        b.layThirty();
        b.turnTo(0);
        b.unit.command(-1, 0, 0);
        addLoop(b, 0, 9, 26);
        addLoop(b, 9, 7, 20);
        CHECKS.due("26 * 9 - 1 and 24 * 7 - 1", b.unit.start(), 0);
        CHECKS.due("begun", b.unit.look(2), 400);
        CHECKS.due("ended behind the last", b.unit.look(0), 16);
    }

    private static void beforeItsNumbers() {
        int[][] wrong = {{Bench.SEEK, 32, 0}, {Bench.KEY, 0, 9}, {Bench.BACK, 99, 0}, {Bench.READ_COUNT, 253, 0},
            {Bench.WRITE_DATA, 0, 61}, {Bench.WRITE_RECORD, 255, 0}, {Bench.SKIP, 0, 601}};
        for (int[] command : wrong) {
            Bench b = doing400();
            b.unit.command(command[0], command[1], command[2]);
            CHECKS.due("kind " + command[0] + " behind 400", b.unit.start(), 6);
            b = doing399();
            b.unit.command(command[0], command[1], command[2]);
            CHECKS.due("kind " + command[0] + " behind 399", b.unit.start(), 2);
            CHECKS.due("begun", b.unit.look(2), 399);
            CHECKS.due("ended at", b.unit.look(0), 15);
        }
    }
}
