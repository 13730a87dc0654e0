import java.util.Arrays;

/** The edges that the document names in promise 5: searches, BACK, and the index passed three times. */
public final class SearchEdgesTest {
    private static final Checks CHECKS = new Checks();
    private static final int LEAST = Integer.MIN_VALUE;
    private static final int MOST = Integer.MAX_VALUE;
    /** Commands that mind the index; the searches among them find nothing on the track of loneRecord. */
    private static final int[][] MINDING = {{Bench.NUMBER, 9, 0}, {Bench.KEY, 100, 0}, {Bench.HIGHER, 255, 1},
        {Bench.READ_COUNT, 110, 0}};

    public static void main(String[] args) {
        Sentences sentences = new Sentences(CHECKS);
        sentences.of("Terms", "1 SEARCH NUMBER a", SearchEdgesTest::numbers, SearchEdgesTest::numberOfThirty);
        sentences.of("Terms", "2 SEARCH KEY equal to the b bytes of the memory from a on", SearchEdgesTest::equalKeys,
            SearchEdgesTest::everyByteCounts, SearchEdgesTest::keysAtTheMemorysEnds);
        sentences.of("Terms", "3 equal or higher", SearchEdgesTest::equalOrHigher);
        sentences.of("Terms", "byte by byte, without a sign", SearchEdgesTest::withoutSign);
        sentences.of("Terms", "a key that is the beginning of a longer one is lower", SearchEdgesTest::beginnings);
        sentences.of("Terms", "is oriented behind the record's count, the key for 2 and 3",
            SearchEdgesTest::orientedBehind);
        sentences.of("Terms", "when the record's number, key is so, the next command is passed over",
            SearchEdgesTest::passedOver, SearchEdgesTest::passedOverAtTheEnd);
        sentences.of("Terms", "4 BACK to command a (not above its own number)", SearchEdgesTest::backTo);
        sentences.of("Terms", "only right behind a search that was done just before, status 2 otherwise",
            SearchEdgesTest::backBehindEach, SearchEdgesTest::backBehindOneNotDone);
        sentences.of("Terms", "the status is 1 when the index was passed three times or more",
            SearchEdgesTest::threeTimes, SearchEdgesTest::threeTimesFound);
        sentences.of("Terms", "since the program's beginning or the latest SEEK", SearchEdgesTest::sinceTheBeginning,
            SearchEdgesTest::sinceTheLatestSeek);
        sentences.of("Terms", "Behind 1, 2, 3 and 5", SearchEdgesTest::notBehindOthers);
        sentences.finish();
    }

    /** Whether a search passes over the next command, a SEEK of no track. */
    private static boolean isFoundAt(Bench b, int place, int kind, int a, int length) {
        return b.runAt(place, kind, a, length, Bench.SEEK, 99, 0) == 0;
    }

    private static void numbers() {
        Bench b = new Bench();
        b.lay(0, 0, 0, 0, 0, 0, 0);
        for (int k = 1; k <= 3; k++) {
            int place = 20 * k - 20;
            for (int number : new int[] {k - 1, k, k + 1, -k, k + 256, LEAST, MOST}) {
                CHECKS.due("number " + number + " at record " + k,
                    isFoundAt(b, place, Bench.NUMBER, number, LEAST) ? 1 : 0, number == k ? 1 : 0);
            }
        }
    }

    private static void numberOfThirty() {
        Bench b = new Bench();
        b.layThirty();
        CHECKS.due("the thirtieth", b.timeAt(0, CHECKS, "search", 0, Bench.NUMBER, 30, 0, Bench.BACK, 0, 0), 600);
        CHECKS.due("the first", b.timeAt(20, CHECKS, "search", 0, Bench.NUMBER, 1, 0, Bench.BACK, 0, 0), 600);
        // From place 0 on the third index is passed where record 30 ends for the third time.
        CHECKS.due("the next", b.timeAt(0, CHECKS, "search", 1, Bench.NUMBER, 31, 0, Bench.BACK, 0, 0), 1800);
        CHECKS.due("none", b.timeAt(0, CHECKS, "search", 1, Bench.NUMBER, 0, 0, Bench.BACK, 0, 0), 1800);
    }

    /** A unit with one record of this key, under the head at place 0; its data are no part of the key. */
    private static Bench withKey(int... key) {
        Bench b = new Bench();
        b.bytes(100, key.length, 2);
        b.bytes(102, key);
        b.bytes(102 + key.length, 255, 255);
        b.run(Bench.WRITE_RECORD, 100, 0);
        return b;
    }

    private static void searchDue(Bench b, boolean equal, boolean orHigher, int... key) {
        String what = Arrays.toString(key);
        b.bytes(0, key);
        // What stands behind the b bytes is no part of what is searched.
        b.bytes(key.length, 255, 255);
        CHECKS.due("equal to " + what, isFoundAt(b, 0, Bench.KEY, 0, key.length) ? 1 : 0, equal ? 1 : 0);
        CHECKS.due("or higher than " + what, isFoundAt(b, 0, Bench.HIGHER, 0, key.length) ? 1 : 0, orHigher ? 1 : 0);
    }

    private static int[] row(int length) {
        int[] row = new int[length];
        for (int i = 0; i < length; i++) {
            row[i] = 50 + i;
        }
        return row;
    }

    private static void equalKeys() {
        for (int length = 0; length <= 8; length++) {
            Bench b = withKey(row(length));
            for (int searched = 0; searched <= 8; searched++) {
                searchDue(b, searched == length, searched <= length, row(searched));
            }
        }
    }

    private static void everyByteCounts() {
        for (int length = 1; length <= 8; length++) {
            Bench b = withKey(row(length));
            for (int i = 0; i < length; i++) {
                int[] key = row(length);
                key[i]--;
                searchDue(b, false, true, key);
                key[i] += 2;
                searchDue(b, false, false, key);
            }
        }
    }

    private static void keysAtTheMemorysEnds() {
        Bench b = withKey(row(8));
        for (int from : new int[] {0, 1, 247, 248}) {
            b.bytes(from, row(8));
            CHECKS.so("from " + from, isFoundAt(b, 0, Bench.KEY, from, 8));
            CHECKS.so("not before " + from, from == 0 || !isFoundAt(b, 0, Bench.KEY, from - 1, 8));
        }
        Bench none = withKey();
        CHECKS.so("no bytes from 255 on", isFoundAt(none, 0, Bench.KEY, 255, 0));
        CHECKS.due("no bytes from 256 on", none.runAt(0, Bench.KEY, 256, 0), 2);
    }

    private static void equalOrHigher() {
        Bench b = withKey(7, 100, 9);
        searchDue(b, false, true, 7, 100, 8);
        searchDue(b, true, true, 7, 100, 9);
        searchDue(b, false, false, 7, 100, 10);
        searchDue(b, false, true, 7, 99, 255);
        searchDue(b, false, false, 7, 101, 0);
        searchDue(b, false, true, 6, 255, 255);
        searchDue(b, false, false, 8, 0, 0);
    }

    private static void withoutSign() {
        Bench middle = withKey(128);
        searchDue(middle, false, true, 127);
        searchDue(middle, true, true, 128);
        searchDue(middle, false, false, 129);
        Bench highest = withKey(255);
        searchDue(highest, false, true, 0);
        searchDue(highest, false, true, 254);
        searchDue(highest, true, true, 255);
        Bench lowest = withKey(0);
        searchDue(lowest, true, true, 0);
        searchDue(lowest, false, false, 1);
        searchDue(lowest, false, false, 255);
        Bench later = withKey(1, 127);
        searchDue(later, false, false, 1, 128);
        searchDue(later, false, true, 1, 126);
    }

    private static void beginnings() {
        Bench b = withKey(5, 6);
        searchDue(b, false, false, 5, 6, 0);
        searchDue(b, true, true, 5, 6);
        searchDue(b, false, true, 5);
        searchDue(b, false, true);
        Bench longer = withKey(5, 6, 0);
        searchDue(longer, false, true, 5, 6);
        searchDue(longer, false, false, 5, 6, 0, 0);
        Bench none = withKey();
        searchDue(none, true, true);
        searchDue(none, false, false, 0);
        Bench eight = withKey(1, 2, 3, 4, 5, 6, 7, 8);
        searchDue(eight, false, true, 1, 2, 3, 4, 5, 6, 7);
        searchDue(eight, false, false, 1, 2, 3, 4, 5, 6, 8);
    }

    private static void orientedBehind() {
        int[][] kindTimeKey = {{Bench.NUMBER, 20, 10}, {Bench.KEY, 23, 20}, {Bench.HIGHER, 23, 20}};
        for (int[] row : kindTimeKey) {
            Bench b = new Bench();
            b.lay(0, 3, 2, 3, 2);
            CHECKS.due("places of kind " + row[0], b.timeAt(0, CHECKS, "search", 0, row[0], 0, 0), row[1]);
            b.runAt(0, row[0], 0, 0, Bench.SKIP, 0, 0, Bench.READ_KEY, 100, 3);
            CHECKS.due("key behind kind " + row[0], b.unit.peek(100), row[2]);
            b.runAt(0, row[0], 0, 0, Bench.SKIP, 0, 0, Bench.READ_DATA, 100, 3);
            CHECKS.due("data behind kind " + row[0], b.unit.peek(100), 13);
        }
    }

    private static void passedOver() {
        Bench b = new Bench();
        b.lay(0, 1, 1, 1, 1);
        CHECKS.due("found", b.timeAt(0, CHECKS, "run", 0, Bench.NUMBER, 1, 0, Bench.SKIP, 0, 1, Bench.SKIP, 0, 2), 22);
        CHECKS.due("begun", b.unit.look(2), 2);
        CHECKS.due("not found", b.timeAt(0, CHECKS, "run", 0, Bench.NUMBER, 2, 0, Bench.SKIP, 0, 1, Bench.SKIP, 0, 2),
            23);
        CHECKS.due("begun", b.unit.look(2), 3);
        b.bytes(100, 10);
        CHECKS.due("key found", b.timeAt(0, CHECKS, "run", 0, Bench.KEY, 100, 1, Bench.SKIP, 0, 1,
            Bench.SKIP, 0, 2), 23);
        CHECKS.due("higher found", b.timeAt(22, CHECKS, "run", 0, Bench.HIGHER, 100, 1, Bench.SKIP, 0, 1,
            Bench.SKIP, 0, 2), 23);
        CHECKS.due("count does not pass over", b.timeAt(0, CHECKS, "run", 0, Bench.READ_COUNT, 1, 0,
            Bench.SKIP, 0, 1, Bench.SKIP, 0, 2), 23);
    }

    private static void passedOverAtTheEnd() {
        Bench b = new Bench();
        b.lay(0, 1, 1, 1, 1);
        CHECKS.due("the last one is passed over", b.runAt(0, Bench.NUMBER, 1, 0, Bench.SKIP, 0, 1), 0);
        CHECKS.due("how many", b.unit.look(0), 2);
        CHECKS.due("begun", b.unit.look(2), 1);
        CHECKS.due("there is none to pass over", b.runAt(0, Bench.NUMBER, 1, 0), 0);
        CHECKS.due("how many", b.unit.look(0), 1);
        int[] sixteen = new int[48];
        for (int i = 0; i < 15; i++) {
            sixteen[3 * i] = Bench.SKIP;
        }
        sixteen[45] = Bench.NUMBER;
        sixteen[46] = 1;
        CHECKS.due("found by the sixteenth", b.runAt(0, sixteen), 0);
        CHECKS.due("how many", b.unit.look(0), 16);
        CHECKS.due("begun", b.unit.look(2), 16);
    }

    private static void backTo() {
        Bench b = new Bench();
        b.lay(0, 0, 0, 0, 0, 0, 0);
        CHECKS.due("to 0", b.timeAt(0, CHECKS, "back", 0, Bench.NUMBER, 3, 0, Bench.BACK, 0, LEAST), 60);
        CHECKS.due("begun", b.unit.look(2), 5);
        CHECKS.due("to one before", b.timeAt(0, CHECKS, "back", 0, Bench.READ_COUNT, 100, 0, Bench.NUMBER, 3, 0,
            Bench.BACK, 1, 0), 60);
        CHECKS.due("begun", b.unit.look(2), 4);
        CHECKS.due("to itself", b.timeAt(0, CHECKS, "back", 2, Bench.SKIP, 0, 0, Bench.NUMBER, 3, 0,
            Bench.BACK, 2, 0, Bench.SKIP, 0, 0), 20);
        CHECKS.due("it was begun once", b.unit.look(2), 3);
        CHECKS.due("ended at", b.unit.look(0), 2);
        for (int a : new int[] {3, 4, 16, MOST, -1, LEAST}) {
            CHECKS.due("to " + a, b.timeAt(0, CHECKS, "back", 2, Bench.SKIP, 0, 0, Bench.NUMBER, 3, 0,
                Bench.BACK, a, 0, Bench.SKIP, 0, 0), 20);
            CHECKS.due("it was not begun", b.unit.look(2), 2);
            CHECKS.due("ended at", b.unit.look(0), 2);
        }
    }

    private static void backBehindEach() {
        int[][] others = {{Bench.SEEK, 0, 0}, {Bench.READ_COUNT, 0, 0}, {Bench.READ_KEY, 0, 1},
            {Bench.READ_DATA, 0, 1}, {Bench.WRITE_DATA, 0, 1}, {Bench.WRITE_RECORD, 100, 0}, {Bench.ERASE, 0, 0},
            {Bench.SKIP, 0, 0}};
        for (int[] command : others) {
            Bench b = new Bench();
            b.lay(0, 1, 1);
            CHECKS.due("behind kind " + command[0], b.runAt(0, command[0], command[1], command[2], Bench.BACK, 0, 0), 2);
            CHECKS.due("ended at", b.unit.look(0), 1);
            CHECKS.due("begun", b.unit.look(2), 1);
        }
        int[][] searches = {{Bench.NUMBER, 2, 0}, {Bench.KEY, 100, 0}, {Bench.HIGHER, 255, 1}};
        for (int[] search : searches) {
            Bench b = new Bench();
            b.lay(0, 1, 1);
            b.bytes(255, 255);
            CHECKS.due("behind kind " + search[0], b.runAt(0, search[0], search[1], search[2], Bench.BACK, 0, 0), 1);
            CHECKS.due("the third turn", b.unit.look(3), 3);
        }
    }

    private static void backBehindOneNotDone() {
        Bench b = new Bench();
        CHECKS.due("the very first of a new object", b.run(Bench.BACK, 0, 0), 2);
        CHECKS.due("begun", b.unit.look(2), 0);
        b.lay(0, 0, 0, 0, 0);
        CHECKS.due("a search of the run before", b.runAt(0, Bench.NUMBER, 2, 0), 0);
        CHECKS.due("is not of this one", b.run(Bench.BACK, 0, 0), 2);
        CHECKS.due("behind the search, but then behind itself", b.runAt(0, Bench.NUMBER, 2, 0, Bench.BACK, 1, 0), 2);
        CHECKS.due("begun", b.unit.look(2), 2);
        CHECKS.due("one in between", b.runAt(0, Bench.NUMBER, 2, 0, Bench.SKIP, 0, 0, Bench.BACK, 0, 0), 2);
        CHECKS.due("ended at", b.unit.look(0), 2);
        CHECKS.due("one passed over in between", b.runAt(0, Bench.NUMBER, 1, 0, Bench.SKIP, 0, 0,
            Bench.BACK, 0, 0), 2);
        CHECKS.due("ended at", b.unit.look(0), 2);
        CHECKS.due("behind a search that was passed over", b.runAt(0, Bench.NUMBER, 1, 0, Bench.NUMBER, 9, 0,
            Bench.BACK, 0, 0), 2);
        CHECKS.due("ended at", b.unit.look(0), 2);
        CHECKS.due("begun", b.unit.look(2), 1);
        // The second search goes back to the first one's BACK: right behind a search, but of long ago.
        CHECKS.due("behind a search, from elsewhere", b.runAt(0, Bench.NUMBER, 1, 0, Bench.BACK, 0, 0,
            Bench.NUMBER, 9, 0, Bench.BACK, 1, 0), 2);
        CHECKS.due("ended at", b.unit.look(0), 1);
        CHECKS.due("begun", b.unit.look(2), 3);
    }

    /** So many skips of a turn, then these commands. */
    private static int[] behindTurns(int turns, int... triples) {
        int[] all = new int[3 * turns + triples.length];
        for (int i = 0; i < turns; i++) {
            all[3 * i] = Bench.SKIP;
            all[3 * i + 2] = 600;
        }
        System.arraycopy(triples, 0, all, 3 * turns, triples.length);
        return all;
    }

    private static Bench loneRecord() {
        Bench b = new Bench();
        b.lay(0, 1, 1);
        b.bytes(255, 255);
        return b;
    }

    private static void threeTimes() {
        for (int[] command : MINDING) {
            Bench b = loneRecord();
            for (int turns = 0; turns <= 5; turns++) {
                String what = "kind " + command[0] + " behind " + turns + " turns";
                CHECKS.due(what, b.runAt(0, behindTurns(turns, command)), turns >= 3 ? 1 : 0);
                CHECKS.due(what + ", index", b.unit.look(3), turns);
                CHECKS.due(what + ", ended at", b.unit.look(0), turns >= 3 ? turns : turns + 1);
                // From place 1 on the command itself passes the index once more.
                CHECKS.due(what + " and its own", b.runAt(1, behindTurns(turns, command)), turns >= 2 ? 1 : 0);
                CHECKS.due(what + ", index", b.unit.look(3), turns + 1);
            }
        }
    }

    private static void threeTimesFound() {
        int[][] finding = {{Bench.NUMBER, 1, 0}, {Bench.KEY, 254, 1}, {Bench.HIGHER, 254, 1}};
        for (int[] search : finding) {
            Bench b = loneRecord();
            b.bytes(254, 10);
            CHECKS.due("two, kind " + search[0], b.runAt(0, behindTurns(2, search)), 0);
            CHECKS.due("three, kind " + search[0], b.runAt(0, behindTurns(3, search)), 1);
        }
        Bench b = loneRecord();
        b.runAt(0, behindTurns(3, Bench.READ_COUNT, 110, 0));
        CHECKS.due("the count came", b.unit.peek(111), 1);
    }

    private static void sinceTheBeginning() {
        for (int[] command : MINDING) {
            Bench b = loneRecord();
            b.runAt(0, behindTurns(3));
            CHECKS.due("turns of the run before", b.unit.look(3), 3);
            CHECKS.due("do not count, kind " + command[0], b.run(behindTurns(2, command)), 0);
            b.turnTo(0);
            CHECKS.due("a third one does", b.run(behindTurns(3, command)), 1);
        }
    }

    private static void sinceTheLatestSeek() {
        int[] seek = {Bench.SEEK, 0, 0};
        for (int[] command : MINDING) {
            Bench b = loneRecord();
            CHECKS.due("a seek begins anew", b.runAt(1, behindTurns(4, concat(seek, command))), 0);
            CHECKS.due("all the same the index is", b.unit.look(3), 5);
            // The command itself passes one more each time.
            CHECKS.due("two behind it", b.runAt(1, behindTurns(4, concat(seek, behindTurns(1, command)))), 0);
            CHECKS.due("three behind it", b.runAt(1, behindTurns(0, concat(seek, behindTurns(2, command)))), 1);
            CHECKS.due("four behind it", b.runAt(1, behindTurns(1, concat(seek, behindTurns(3, command)))), 1);
            CHECKS.due("of two seeks the latest", b.runAt(1, concat(seek, behindTurns(2, concat(seek,
                behindTurns(1, command))))), 0);
        }
    }

    private static int[] concat(int[] first, int[] second) {
        int[] both = Arrays.copyOf(first, first.length + second.length);
        System.arraycopy(second, 0, both, first.length, second.length);
        return both;
    }

    private static void notBehindOthers() {
        int[][] others = {{Bench.SEEK, 0, 0}, {Bench.READ_KEY, 100, 1}, {Bench.READ_DATA, 100, 1},
            {Bench.WRITE_DATA, 100, 1}, {Bench.WRITE_RECORD, 100, 0}, {Bench.ERASE, 0, 0}, {Bench.SKIP, 0, 1}};
        for (int[] command : others) {
            for (int turns = 2; turns <= 4; turns++) {
                CHECKS.due("kind " + command[0] + " behind " + turns, loneRecord().runAt(1,
                    behindTurns(turns, command)), 0);
            }
        }
        for (int[] command : MINDING) {
            CHECKS.due("kind " + command[0] + " behind 3", loneRecord().runAt(1, behindTurns(3, command)), 1);
        }
    }
}
