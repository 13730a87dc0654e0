/** Promises 5 and 7: how the head moves on, searches, BACK and the index, and what time they take. */
public final class MovingTest {
    private static final Checks CHECKS = new Checks();

    public static void main(String[] args) {
        seek();
        emptyTrack();
        notOriented();
        oriented();
        trackFullToTheEnd();
        loneRecord();
        searchKeys();
        shortKeys();
        passedOver();
        back();
        backThatCannotBe();
        readCount();
        index();
        indexSinceSeek();
        indexBehindKey();
        tooMany();
        CHECKS.finish();
    }

    private static void seek() {
        Bench b = new Bench();
        CHECKS.due("seek to where it is", b.time(CHECKS, "seek 0", 0, Bench.SEEK, 0, 7), 10);
        CHECKS.due("seek over 31", b.time(CHECKS, "seek 31", 0, Bench.SEEK, 31, -1), 103);
        CHECKS.due("head", b.unit.look(4), 31);
        CHECKS.due("seek back over 29", b.time(CHECKS, "seek 2", 0, Bench.SEEK, 2, 0), 97);
        for (int track : new int[] {-1, 32, Integer.MIN_VALUE, Integer.MAX_VALUE}) {
            CHECKS.due("seek of no track", b.time(CHECKS, "seek " + track, 2, Bench.SEEK, track, 0), 0);
            CHECKS.due("head stays", b.unit.look(4), 2);
        }
    }

    private static void emptyTrack() {
        int[][] moving = {{Bench.NUMBER, 1, 0}, {Bench.KEY, 0, 0}, {Bench.HIGHER, 0, 0}, {Bench.READ_COUNT, 0, 0},
            {Bench.READ_KEY, 0, 60}, {Bench.READ_DATA, 0, 60}, {Bench.WRITE_DATA, 0, 0}};
        for (int[] command : moving) {
            Bench b = new Bench();
            CHECKS.due("from place 0", b.time(CHECKS, "kind " + command[0], 1, command), 1200);
            CHECKS.due("index passed", b.unit.look(3), 2);
            b.turnTo(1);
            CHECKS.due("from place 1", b.time(CHECKS, "kind " + command[0], 1, command), 1199);
            b.turnTo(599);
            CHECKS.due("from place 599", b.time(CHECKS, "kind " + command[0], 1, command), 601);
            CHECKS.due("residual", b.unit.look(1), 0);
            CHECKS.due("came to no record", b.unit.look(5), 0);
        }
    }

    private static void notOriented() {
        Bench b = new Bench();
        b.lay(0, 0, 10, 2, 3, 1, 0);
        int[][] placesAndNumbers = {{0, 1, 20}, {1, 2, 49}, {30, 2, 20}, {31, 3, 44}, {55, 3, 20}, {56, 1, 564},
            {599, 1, 21}};
        for (int[] row : placesAndNumbers) {
            b.turnTo(row[0]);
            CHECKS.due("time from " + row[0], b.time(CHECKS, "count", 0, Bench.READ_COUNT, 100, 0), row[2]);
            CHECKS.due("number from " + row[0], b.unit.peek(101), row[1]);
        }
        b.turnTo(0);
        CHECKS.due("a count", b.time(CHECKS, "count", 0, Bench.READ_COUNT, 100, 0), 20);
        CHECKS.due("not oriented behind the program", b.time(CHECKS, "data", 0, Bench.READ_DATA, 100, 60), 35);
        CHECKS.due("the next one's data", b.unit.peek(100), 22);
    }

    private static void oriented() {
        Bench b = new Bench();
        b.lay(0, 0, 10, 2, 3, 1, 0);
        b.turnTo(0);
        CHECKS.due("around", b.time(CHECKS, "three counts and one", 0, Bench.READ_COUNT, 100, 0,
            Bench.READ_COUNT, 104, 0, Bench.READ_COUNT, 108, 0, Bench.READ_COUNT, 112, 0), 620);
        for (int k = 1; k <= 4; k++) {
            CHECKS.due("number " + k, b.unit.peek(97 + 4 * k), k == 4 ? 1 : k);
        }
        b.turnTo(0);
        CHECKS.due("a skip of nothing", b.time(CHECKS, "skip 0", 0, Bench.READ_DATA, 0, 60, Bench.SKIP, 0, 0,
            Bench.READ_COUNT, 100, 0), 50);
        CHECKS.due("stays oriented", b.unit.peek(101), 2);
        b.turnTo(0);
        CHECKS.due("a skip of one", b.time(CHECKS, "skip 1", 0, Bench.READ_DATA, 0, 60, Bench.SKIP, 0, 1,
            Bench.READ_COUNT, 100, 0), 75);
        CHECKS.due("ends the orientation", b.unit.peek(101), 3);
        b.turnTo(0);
        CHECKS.due("a seek", b.time(CHECKS, "seek", 0, Bench.READ_COUNT, 100, 0, Bench.SEEK, 0, 0,
            Bench.READ_KEY, 0, 60), 52);
        b.turnTo(0);
        CHECKS.due("a seek that ends it", b.time(CHECKS, "seek", 0, Bench.READ_COUNT, 100, 0, Bench.SEEK, 0, 0,
            Bench.SKIP, 0, 1, Bench.READ_COUNT, 100, 0), 75);
    }

    private static void trackFullToTheEnd() {
        Bench b = new Bench();
        b.lay(0, 8, 60, 8, 60, 8, 60, 8, 60, 8, 60, 8, 60, 8, 44);
        CHECKS.due("beginning of the last", b.unit.record(0, 7, 0), 528);
        b.turnTo(528);
        CHECKS.due("to the end and on", b.time(CHECKS, "end", 0, Bench.READ_DATA, 0, 60, Bench.READ_COUNT, 100, 0), 92);
        CHECKS.due("the first one begins there", b.unit.peek(101), 1);
        CHECKS.due("index", b.unit.look(3), 1);
        b.turnTo(528);
        b.bytes(250, 0, 0);
        CHECKS.due("no room", b.time(CHECKS, "full", 5, Bench.READ_COUNT, 100, 0, Bench.WRITE_RECORD, 250, 0), 72);
        CHECKS.due("all stay", b.unit.record(0, 0, 0), 7);
        CHECKS.due("ended there", b.unit.look(0), 1);
    }

    private static void loneRecord() {
        Bench b = new Bench();
        b.lay(3, 0, 0);
        b.turnTo(0);
        CHECKS.due("a turn", b.time(CHECKS, "lone", 0, Bench.READ_COUNT, 0, 0, Bench.READ_COUNT, 0, 0), 620);
        b.turnTo(0);
        CHECKS.due("no key, no data", b.time(CHECKS, "lone", 0, Bench.READ_KEY, 0, 0, Bench.READ_DATA, 0, 0), 20);
        b.turnTo(0);
        CHECKS.due("key twice", b.time(CHECKS, "lone", 0, Bench.READ_KEY, 0, 0, Bench.READ_KEY, 0, 0), 620);
        b.turnTo(0);
        CHECKS.due("data, then key", b.time(CHECKS, "lone", 0, Bench.READ_DATA, 0, 0, Bench.READ_KEY, 0, 0), 620);
    }

    /** Whether a search passes over the next command, a SEEK of no track. */
    private static boolean isFound(Bench b, int kind, int length, int... key) {
        b.bytes(0, key);
        b.turnTo(0);
        return b.run(kind, 0, length, Bench.SEEK, 99, 0) == 0;
    }

    private static void keyCheck(Bench b, String what, boolean equal, boolean higher, int... key) {
        CHECKS.due(what + ", equal", isFound(b, Bench.KEY, key.length, key) ? 1 : 0, equal ? 1 : 0);
        CHECKS.due(what + ", or higher", isFound(b, Bench.HIGHER, key.length, key) ? 1 : 0, higher ? 1 : 0);
    }

    private static void searchKeys() {
        Bench b = new Bench();
        b.bytes(0, 3, 1, 100, 200, 127, 9);
        b.run(Bench.WRITE_RECORD, 0, 0);
        keyCheck(b, "the same", true, true, 100, 200, 127);
        keyCheck(b, "last byte lower", false, true, 100, 200, 126);
        keyCheck(b, "last byte higher", false, false, 100, 200, 128);
        keyCheck(b, "without a sign", false, false, 100, 201, 0);
        keyCheck(b, "first byte lower", false, true, 99, 255, 255);
        keyCheck(b, "first byte without a sign", false, false, 200, 0, 0);
        keyCheck(b, "a beginning", false, true, 100, 200);
        keyCheck(b, "a longer one", false, false, 100, 200, 127, 0);
        keyCheck(b, "a longer lower one", false, true, 100, 199, 127, 0);
        keyCheck(b, "none", false, true);
        CHECKS.due("search key takes the key", b.time(CHECKS, "key", 0, Bench.SEEK, 0, 0, Bench.HIGHER, 0, 0),
            600 - 23 + 23);
    }

    private static void shortKeys() {
        Bench b = new Bench();
        b.lay(0, 0, 1);
        keyCheck(b, "none of none", true, true);
        keyCheck(b, "none of one", false, false, 0);
        b.lay(0, 8, 60);
        keyCheck(b, "eight", true, true, 10, 11, 12, 13, 14, 15, 16, 17);
        keyCheck(b, "eight, not the last", false, true, 10, 11, 12, 13, 14, 15, 16, 0);
    }

    private static void passedOver() {
        Bench b = new Bench();
        b.lay(0, 1, 1, 1, 1);
        b.turnTo(0);
        CHECKS.due("found as the last command", b.run(Bench.NUMBER, 1, 0), 0);
        CHECKS.due("ended behind it", b.unit.look(0), 1);
        CHECKS.due("begun", b.unit.look(2), 1);
        b.turnTo(0);
        CHECKS.due("only the next one", b.run(Bench.NUMBER, 1, 0, Bench.SEEK, 99, 0, Bench.SEEK, 98, 0), 2);
        CHECKS.due("ended at", b.unit.look(0), 2);
        CHECKS.due("begun", b.unit.look(2), 1);
        b.turnTo(0);
        CHECKS.due("not so: the next one is done", b.run(Bench.NUMBER, 2, 0, Bench.SEEK, 99, 0), 2);
        CHECKS.due("ended at", b.unit.look(0), 1);
        for (int number : new int[] {0, -1, 3, Integer.MAX_VALUE}) {
            b.turnTo(0);
            CHECKS.due("no such number", b.run(Bench.NUMBER, number, -5), 0);
        }
    }

    private static void back() {
        Bench b = new Bench();
        b.lay(0, 1, 1, 1, 1, 1, 1);
        b.turnTo(0);
        CHECKS.due("to the third", b.time(CHECKS, "back", 0, Bench.NUMBER, 3, 0, Bench.BACK, 0, 0,
            Bench.READ_DATA, 50, 60), 66);
        CHECKS.due("begun", b.unit.look(2), 6);
        CHECKS.due("its data", b.unit.peek(50), 31);
        b.turnTo(0);
        CHECKS.due("back beyond the search", b.time(CHECKS, "back", 0, Bench.SKIP, 0, 0, Bench.HIGHER, 110, 0,
            Bench.SEEK, 99, 0, Bench.NUMBER, 3, 0, Bench.BACK, 3, -9), 64);
        b.turnTo(0);
        CHECKS.due("back to itself", b.run(Bench.NUMBER, 2, 0, Bench.BACK, 1, 0), 2);
        CHECKS.due("begun", b.unit.look(2), 2);
        CHECKS.due("ended at", b.unit.look(0), 1);
    }

    private static void backThatCannotBe() {
        Bench b = new Bench();
        CHECKS.due("the very first", b.time(CHECKS, "back", 2, Bench.BACK, 0, 0), 0);
        CHECKS.due("begun", b.unit.look(2), 0);
        b.lay(0, 1, 1, 1, 1, 1, 1);
        CHECKS.due("first", b.time(CHECKS, "back", 2, Bench.BACK, 0, 0), 0);
        CHECKS.due("begun", b.unit.look(2), 0);
        CHECKS.due("behind no search", b.run(Bench.SKIP, 0, 0, Bench.BACK, 0, 0), 2);
        CHECKS.due("behind a count", b.run(Bench.READ_COUNT, 0, 0, Bench.BACK, 0, 0), 2);
        for (int a : new int[] {-1, 2, Integer.MIN_VALUE, Integer.MAX_VALUE}) {
            b.turnTo(0);
            CHECKS.due("back to " + a, b.time(CHECKS, "back", 2, Bench.NUMBER, 9, 0, Bench.BACK, a, 0,
                Bench.SKIP, 0, 0), 20);
            CHECKS.due("begun", b.unit.look(2), 1);
        }
        b.turnTo(0);
        CHECKS.due("one was passed over", b.run(Bench.NUMBER, 1, 0, Bench.SKIP, 0, 0, Bench.BACK, 0, 0), 2);
        CHECKS.due("ended at", b.unit.look(0), 2);
        b.turnTo(0);
        CHECKS.due("back to a back", b.run(Bench.NUMBER, 1, 0, Bench.BACK, 0, 0, Bench.NUMBER, 9, 0,
            Bench.BACK, 1, 0), 2);
        CHECKS.due("ended at", b.unit.look(0), 1);
        CHECKS.due("begun", b.unit.look(2), 3);
        b.turnTo(0);
        CHECKS.due("not in the next run", b.run(Bench.NUMBER, 9, 0), 0);
        CHECKS.due("not in the next run", b.run(Bench.BACK, 0, 0), 2);
    }

    private static void readCount() {
        Bench b = new Bench();
        b.lay(17, 3, 5, 8, 60);
        b.turnTo(0);
        b.run(Bench.READ_COUNT, 100, -1, Bench.READ_COUNT, 252, 0);
        int[] due = {17, 1, 3, 5, 17, 2, 8, 60};
        for (int i = 0; i < 8; i++) {
            CHECKS.due("count byte " + i, b.unit.peek(i < 4 ? 100 + i : 248 + i), due[i]);
        }
        CHECKS.due("no more than four", b.unit.peek(104), 0);
        b.turnTo(0);
        CHECKS.due("four bytes do not fit", b.time(CHECKS, "count", 2, Bench.READ_COUNT, 253, 0), 0);
        CHECKS.due("no place", b.run(Bench.READ_COUNT, -1, 0), 2);
        CHECKS.due("no place", b.run(Bench.READ_COUNT, Integer.MAX_VALUE, 0), 2);
    }

    private static void index() {
        Bench b = new Bench();
        b.lay(0, 1, 1);
        b.turnTo(1);
        CHECKS.due("third index", b.time(CHECKS, "index", 1, Bench.NUMBER, 2, 0, Bench.BACK, 0, 0), 1819);
        CHECKS.due("ended at", b.unit.look(0), 0);
        CHECKS.due("index", b.unit.look(3), 3);
        b.turnTo(0);
        CHECKS.due("from place 0", b.time(CHECKS, "index", 1, Bench.NUMBER, 2, 0, Bench.BACK, 0, 0), 1820);
        b.turnTo(0);
        CHECKS.due("two are not too many", b.run(Bench.READ_COUNT, 0, 0, Bench.READ_COUNT, 0, 0,
            Bench.READ_COUNT, 0, 0), 0);
        CHECKS.due("index", b.unit.look(3), 2);
        b.turnTo(1);
        b.bytes(40, 0, 0, 0, 0);
        CHECKS.due("three are", b.run(Bench.READ_COUNT, 0, 0, Bench.READ_COUNT, 0, 0, Bench.READ_COUNT, 40, 0), 1);
        CHECKS.due("the count came all the same", b.unit.peek(41), 1);
        b.turnTo(1);
        CHECKS.due("found all the same", b.run(Bench.SKIP, 0, 600, Bench.SKIP, 0, 600, Bench.NUMBER, 1, 0,
            Bench.SEEK, 99, 0), 1);
        CHECKS.due("ended at", b.unit.look(0), 2);
        b.turnTo(1);
        CHECKS.due("reads do not mind", b.run(Bench.SKIP, 0, 600, Bench.SKIP, 0, 600, Bench.READ_KEY, 0, 8,
            Bench.READ_DATA, 0, 8, Bench.READ_DATA, 0, 8), 0);
        CHECKS.due("index", b.unit.look(3), 4);
    }

    private static void indexSinceSeek() {
        Bench b = new Bench();
        b.lay(0, 1, 1);
        b.turnTo(1);
        CHECKS.due("a seek begins anew", b.run(Bench.SKIP, 0, 600, Bench.SKIP, 0, 600, Bench.SEEK, 0, 0,
            Bench.NUMBER, 1, 0), 0);
        CHECKS.due("index", b.unit.look(3), 3);
        b.turnTo(595);
        CHECKS.due("the seek's own index", b.time(CHECKS, "seek", 1, Bench.SEEK, 0, 0, Bench.NUMBER, 2, 0,
            Bench.BACK, 1, 0), 10 + 595 + 1220);
        CHECKS.due("index", b.unit.look(3), 4);
    }

    private static void indexBehindKey() {
        Bench b = new Bench();
        b.lay(0, 8, 60, 8, 60, 8, 60, 8, 60, 8, 60, 8, 60, 0, 24, 8, 0);
        CHECKS.due("key to the end", b.unit.record(0, 8, 0), 572);
        b.turnTo(572);
        CHECKS.due("key comes to the index", b.time(CHECKS, "key", 1, Bench.SKIP, 0, 600, Bench.SKIP, 0, 600,
            Bench.KEY, 0, 0), 1228);
        CHECKS.due("index", b.unit.look(3), 3);
    }

    private static void tooMany() {
        Bench b = new Bench();
        b.run(Bench.WRITE_RECORD, 0, 0, Bench.WRITE_RECORD, 0, 0);
        // A seek in each round keeps the index from ending the run.
        CHECKS.due("too many", b.run(Bench.SEEK, 0, 0, Bench.NUMBER, 9, 0, Bench.BACK, 0, 0), 6);
        CHECKS.due("begun", b.unit.look(2), 400);
        CHECKS.due("ended at", b.unit.look(0), 1);
        CHECKS.due("one command before", b.run(Bench.SKIP, 0, 0, Bench.SEEK, 0, 0, Bench.NUMBER, 9, 0,
            Bench.BACK, 1, 0), 6);
        CHECKS.due("ended at", b.unit.look(0), 1);
        CHECKS.due("two commands before", b.run(Bench.SKIP, 0, 0, Bench.SKIP, 0, 0, Bench.SEEK, 0, 0,
            Bench.NUMBER, 9, 0, Bench.BACK, 2, 0), 6);
        CHECKS.due("ended at", b.unit.look(0), 4);
    }
}
