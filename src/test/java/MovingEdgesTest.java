/** The edges that the document names in promise 5: tracks, places, how the head moves on, the index. */
public final class MovingEdgesTest {
    private static final Checks CHECKS = new Checks();

    public static void main(String[] args) {
        Sentences sentences = new Sentences(CHECKS);
        sentences.of("Promise 5:", "perhaps none: 0", MovingEdgesTest::noCommands);
        sentences.of("Promise 5:", "clock and head go on from where they are", MovingEdgesTest::goesOn);
        sentences.of("Terms", "TRACKS 0 .. 31 are circles of 600 PLACES", MovingEdgesTest::firstAndLastTrack,
            MovingEdgesTest::circle);
        sentences.of("Terms", "all turning together", MovingEdgesTest::turningTogether);
        sentences.of("Terms", "it ends behind the last one with STATUS 0, or with another status at a command",
            MovingEdgesTest::endOfTheProgram);
        sentences.of("Terms", "not oriented when the program begins, behind a SEEK, and behind the program",
            MovingEdgesTest::notOrientedAtFirst, MovingEdgesTest::notOrientedBehindSeek);
        sentences.of("Terms", "(of the first one, behind the last one)", MovingEdgesTest::around,
            MovingEdgesTest::aroundOfOne, MovingEdgesTest::aroundOfAFullTrack);
        sentences.of("Terms", "of the first one that comes under the head (also one that begins where it is)",
            MovingEdgesTest::beginsWhereItIs, MovingEdgesTest::beginsWhereItIsForEach);
        sentences.of("Terms", "On a track without records it goes on to place 0 twice (as of a place 0 to the next"
            + " ones), and the status is 1.", MovingEdgesTest::noRecords, MovingEdgesTest::recordsThatAreGone);
        sentences.of("Terms", "The INDEX is passed each time the clock comes to a multiple of 600.",
            MovingEdgesTest::indexOfSkips, MovingEdgesTest::indexOfOthers);
        sentences.of("Terms", "0 SEEK track a: 10 places, and 3 for each track that the head goes over.",
            MovingEdgesTest::seekTimes);
        sentences.finish();
    }

    private static void noCommands() {
        Bench b = new Bench();
        CHECKS.due("on a new object", b.unit.start(), 0);
        CHECKS.due("status 2 before", b.run(Bench.SKIP, 0, 601), 2);
        CHECKS.due("of none", b.run(), 0);
        CHECKS.due("once more", b.unit.start(), 0);
        CHECKS.due("clock", b.unit.clock(), 0);
        CHECKS.due("one command", b.run(Bench.SKIP, 0, 1), 0);
        CHECKS.due("clock", b.unit.clock(), 1);
    }

    private static void goesOn() {
        Bench b = new Bench();
        CHECKS.due("seek and skip", b.time(CHECKS, "run", 0, Bench.SEEK, 3, 0, Bench.SKIP, 0, 33), 52);
        CHECKS.due("no commands", b.time(CHECKS, "run", 0), 0);
        CHECKS.due("clock", b.unit.clock(), 52);
        CHECKS.due("head", b.unit.look(4), 3);
        CHECKS.due("the same program again", b.time(CHECKS, "run", 0, Bench.SEEK, 3, 0), 10);
        CHECKS.due("from where the head is", b.time(CHECKS, "run", 0, Bench.SEEK, 4, 0), 13);
        CHECKS.due("from where the clock is", b.time(CHECKS, "run", 0, Bench.WRITE_RECORD, 0, 0), 600 - 75 + 20);
        CHECKS.due("where the head is", b.unit.record(4, 0, 0), 1);
        CHECKS.due("clock", b.unit.clock(), 620);
    }

    private static void firstAndLastTrack() {
        for (int track : new int[] {0, 31}) {
            Bench b = new Bench();
            CHECKS.due("seek " + track, b.run(Bench.SEEK, track, 0, Bench.WRITE_RECORD, 0, 0), 0);
            CHECKS.due("head", b.unit.look(4), track);
            CHECKS.due("record", b.unit.record(track, 0, 0), 1);
        }
        for (int track : new int[] {-1, 32}) {
            Bench b = new Bench();
            CHECKS.due("seek " + track, b.run(Bench.SEEK, track, 0, Bench.WRITE_RECORD, 0, 0), 2);
            CHECKS.due("head", b.unit.look(4), 0);
            CHECKS.due("no record", b.unit.record(0, 0, 0), 0);
        }
    }

    /** The same record comes under the head every 600 places. */
    private static void circle() {
        Bench b = new Bench();
        b.lay(0, 0, 10, 0, 10);
        b.turnTo(30);
        for (int turn = 1; turn <= 4; turn++) {
            long before = b.unit.clock();
            b.run(Bench.READ_COUNT, 100, 0, Bench.SKIP, 0, 580);
            CHECKS.due("a turn", b.unit.clock() - before, 600);
            CHECKS.due("the second one in turn " + turn, b.unit.peek(101), 2);
        }
        b.run(Bench.SKIP, 0, 599);
        CHECKS.due("a place before it", b.time(CHECKS, "count", 0, Bench.READ_COUNT, 100, 0), 21);
        CHECKS.due("the second one", b.unit.peek(101), 2);
    }

    /** A seek over 31 tracks takes 103 places, there as here. */
    private static void turningTogether() {
        int[][] placeNumberTime = {{497, 1, 123}, {498, 2, 152}, {526, 2, 124}, {527, 2, 123}, {528, 1, 692}};
        for (int[] row : placeNumberTime) {
            Bench b = new Bench();
            b.lay(31, 0, 10, 0, 10);
            b.run(Bench.SEEK, 0, 0);
            CHECKS.due("from " + row[0], b.timeAt(row[0], CHECKS, "seek", 0, Bench.SEEK, 31, 0,
                Bench.READ_COUNT, 100, 0), row[2]);
            CHECKS.due("number from " + row[0], b.unit.peek(101), row[1]);
        }
    }

    private static void endOfTheProgram() {
        Bench b = new Bench();
        CHECKS.due("behind the last one", b.time(CHECKS, "run", 0, Bench.SKIP, 0, 1, Bench.SKIP, 0, 2), 3);
        CHECKS.due("ended", b.unit.look(0), 2);
        CHECKS.due("at the last one", b.time(CHECKS, "run", 2, Bench.SKIP, 0, 1, Bench.SKIP, 0, -1), 1);
        CHECKS.due("ended", b.unit.look(0), 1);
        CHECKS.due("at the first one", b.time(CHECKS, "run", 2, Bench.SKIP, 0, -1, Bench.SKIP, 0, 2), 0);
        CHECKS.due("ended", b.unit.look(0), 0);
    }

    private static Bench threeOfThirty() {
        Bench b = new Bench();
        b.lay(0, 0, 10, 0, 10, 0, 10);
        b.turnTo(0);
        return b;
    }

    private static void notOrientedAtFirst() {
        Bench b = threeOfThirty();
        CHECKS.due("oriented in a program", b.time(CHECKS, "run", 0, Bench.READ_COUNT, 0, 0,
            Bench.READ_DATA, 100, 60), 30);
        CHECKS.due("the same record", b.unit.peek(100), 10);
        b = threeOfThirty();
        b.run(Bench.READ_COUNT, 0, 0);
        CHECKS.due("not in the next one", b.time(CHECKS, "run", 0, Bench.READ_DATA, 100, 60), 40);
        CHECKS.due("the next record", b.unit.peek(100), 20);
        b = threeOfThirty();
        b.run(Bench.READ_COUNT, 0, 0, Bench.WRITE_RECORD, 100, 0);
        CHECKS.due("written behind the first", b.unit.record(0, 0, 0), 2);
        b = threeOfThirty();
        b.run(Bench.READ_COUNT, 0, 0);
        CHECKS.due("written at place 0", b.time(CHECKS, "run", 0, Bench.WRITE_RECORD, 100, 0), 600);
        CHECKS.due("the only one", b.unit.record(0, 0, 0), 1);
        b = threeOfThirty();
        b.run(Bench.READ_COUNT, 0, 0, Bench.SKIP, 0, 601);
        CHECKS.due("nor behind status 2", b.time(CHECKS, "run", 0, Bench.READ_DATA, 100, 60), 40);
    }

    private static void notOrientedBehindSeek() {
        Bench b = threeOfThirty();
        CHECKS.due("to the same track", b.time(CHECKS, "run", 0, Bench.READ_COUNT, 0, 0, Bench.SEEK, 0, 0,
            Bench.READ_DATA, 100, 60), 60);
        CHECKS.due("the record that begins there", b.unit.peek(100), 20);
        b = threeOfThirty();
        b.run(Bench.READ_COUNT, 0, 0, Bench.SEEK, 0, 0, Bench.ERASE, 0, 0);
        CHECKS.due("all are gone", b.unit.record(0, 0, 0), 0);
        b = threeOfThirty();
        b.run(Bench.READ_COUNT, 0, 0, Bench.ERASE, 0, 0);
        CHECKS.due("without a seek one stays", b.unit.record(0, 0, 0), 1);
    }

    private static void around() {
        int[][] rows = {{1, 30, 10}, {2, 55, 22}, {3, 76, 22}, {4, 630, 10}, {5, 655, 22}};
        for (int[] row : rows) {
            Bench b = new Bench();
            b.lay(0, 0, 10, 2, 3, 1, 0);
            int[] commands = new int[3 * row[0]];
            for (int i = 0; i < row[0]; i++) {
                System.arraycopy(new int[] {Bench.READ_DATA, 100, 60}, 0, commands, 3 * i, 3);
            }
            CHECKS.due("places of " + row[0], b.timeAt(0, CHECKS, "data", 0, commands), row[1]);
            CHECKS.due("latest byte of " + row[0], b.unit.peek(100), row[2]);
        }
        Bench b = new Bench();
        b.lay(0, 0, 10, 2, 3, 1, 0);
        b.runAt(30, Bench.READ_COUNT, 100, 0, Bench.READ_COUNT, 104, 0, Bench.READ_COUNT, 108, 0,
            Bench.READ_COUNT, 112, 0);
        int[] numbers = {2, 3, 1, 2};
        for (int i = 0; i < 4; i++) {
            CHECKS.due("count " + i, b.unit.peek(101 + 4 * i), numbers[i]);
        }
    }

    private static void aroundOfOne() {
        Bench b = new Bench();
        b.lay(0, 0, 0);
        CHECKS.due("it comes again", b.timeAt(0, CHECKS, "counts", 0, Bench.READ_COUNT, 100, 0,
            Bench.READ_COUNT, 104, 0), 620);
        CHECKS.due("number", b.unit.peek(105), 1);
        CHECKS.due("its data end where its count does", b.timeAt(0, CHECKS, "data", 0, Bench.READ_COUNT, 100, 0,
            Bench.READ_DATA, 0, 0), 20);
        CHECKS.due("behind its data", b.timeAt(0, CHECKS, "data", 0, Bench.READ_DATA, 0, 0,
            Bench.READ_DATA, 0, 0), 620);
    }

    private static void aroundOfAFullTrack() {
        Bench b = new Bench();
        b.layThirty();
        CHECKS.due("the first begins where the last ends", b.timeAt(580, CHECKS, "counts", 0,
            Bench.READ_COUNT, 100, 0, Bench.READ_COUNT, 104, 0), 40);
        CHECKS.due("last", b.unit.peek(101), 30);
        CHECKS.due("first", b.unit.peek(105), 1);
        CHECKS.due("index", b.unit.look(3), 1);
        CHECKS.due("the last but one", b.timeAt(560, CHECKS, "counts", 0, Bench.READ_COUNT, 100, 0,
            Bench.READ_COUNT, 104, 0), 40);
        CHECKS.due("then the last", b.unit.peek(105), 30);
    }

    private static void beginsWhereItIs() {
        Bench b = new Bench();
        b.lay(0, 0, 10, 2, 3, 1, 0);
        int[][] placeNumberTime = {{0, 1, 20}, {1, 2, 49}, {29, 2, 21}, {30, 2, 20}, {31, 3, 44}, {54, 3, 21},
            {55, 3, 20}, {56, 1, 564}, {76, 1, 544}, {599, 1, 21}};
        for (int[] row : placeNumberTime) {
            CHECKS.due("time at " + row[0], b.timeAt(row[0], CHECKS, "count", 0, Bench.READ_COUNT, 100, 0), row[2]);
            CHECKS.due("number at " + row[0], b.unit.peek(101), row[1]);
        }
    }

    /** Every command that moves on, where a record of key 2 and data 3 begins and a place behind that. */
    private static void beginsWhereItIsForEach() {
        int[][] kindThereBehind = {{Bench.NUMBER, 20, 44}, {Bench.KEY, 22, 45}, {Bench.HIGHER, 22, 45},
            {Bench.READ_COUNT, 20, 44}, {Bench.READ_KEY, 22, 45}, {Bench.READ_DATA, 25, 48},
            {Bench.WRITE_DATA, 25, 48}};
        for (int[] row : kindThereBehind) {
            Bench b = new Bench();
            b.lay(0, 0, 10, 2, 3, 1, 3);
            int length = row[0] < 4 ? 0 : 3;
            CHECKS.due("there, kind " + row[0], b.timeAt(30, CHECKS, "run", 0, row[0], 100, length), row[1]);
            CHECKS.due("behind, kind " + row[0], b.timeAt(31, CHECKS, "run", 0, row[0], 100, length), row[2]);
        }
    }

    private static void noRecords() {
        int[][] moving = {{Bench.NUMBER, 1, 0}, {Bench.KEY, 0, 0}, {Bench.HIGHER, 0, 0}, {Bench.READ_COUNT, 0, 0},
            {Bench.READ_KEY, 0, 60}, {Bench.READ_DATA, 0, 60}, {Bench.WRITE_DATA, 0, 0}};
        int[][] placeAndTime = {{0, 1200}, {1, 1199}, {300, 900}, {599, 601}};
        for (int[] command : moving) {
            for (int[] row : placeAndTime) {
                Bench b = new Bench();
                String what = "kind " + command[0] + " at " + row[0];
                CHECKS.due(what, b.timeAt(row[0], CHECKS, what, 1, command[0], command[1], command[2],
                    Bench.SKIP, 0, 1), row[1]);
                CHECKS.due(what + ", index", b.unit.look(3), 2);
                CHECKS.due(what + ", ended at", b.unit.look(0), 0);
                CHECKS.due(what + ", begun", b.unit.look(2), 1);
                CHECKS.due(what + ", memory", b.unit.peek(0) + b.unit.peek(1), 0);
            }
        }
    }

    private static void recordsThatAreGone() {
        Bench b = new Bench();
        b.lay(0, 1, 1);
        CHECKS.due("one record", b.timeAt(1, CHECKS, "count", 0, Bench.READ_COUNT, 0, 0), 619);
        b.run(Bench.ERASE, 0, 0);
        CHECKS.due("erased", b.timeAt(1, CHECKS, "count", 1, Bench.READ_COUNT, 0, 0), 1199);
        b.lay(0, 1, 1);
        b.unit.allocate(0, 1);
        CHECKS.due("allocated", b.timeAt(0, CHECKS, "count", 1, Bench.READ_COUNT, 0, 0), 1200);
        b.unit.store(0, 7, 0);
        CHECKS.due("stored", b.timeAt(0, CHECKS, "count", 0, Bench.READ_COUNT, 0, 0), 20);
    }

    private static void indexDue(int place, int due, int... triples) {
        Bench b = new Bench();
        b.runAt(place, triples);
        CHECKS.due("index from place " + place, b.unit.look(3), due);
    }

    private static void indexOfSkips() {
        indexDue(0, 0, Bench.SKIP, 0, 0);
        indexDue(0, 0, Bench.SKIP, 0, 599);
        indexDue(0, 1, Bench.SKIP, 0, 600);
        indexDue(0, 1, Bench.SKIP, 0, 600, Bench.SKIP, 0, 599);
        indexDue(0, 2, Bench.SKIP, 0, 600, Bench.SKIP, 0, 600);
        indexDue(1, 0, Bench.SKIP, 0, 598);
        indexDue(1, 1, Bench.SKIP, 0, 599);
        indexDue(1, 1, Bench.SKIP, 0, 600);
        indexDue(599, 0, Bench.SKIP, 0, 0);
        indexDue(599, 1, Bench.SKIP, 0, 1);
        indexDue(599, 1, Bench.SKIP, 0, 600);
        indexDue(599, 2, Bench.SKIP, 0, 600, Bench.SKIP, 0, 1);
        // It was come to in the run before; staying there or leaving is not coming to it.
        Bench b = new Bench();
        b.run(Bench.SKIP, 0, 600);
        b.run(Bench.SKIP, 0, 0);
        CHECKS.due("staying at 600", b.unit.look(3), 0);
        b.run(Bench.SKIP, 0, 1);
        CHECKS.due("leaving 600", b.unit.look(3), 0);
    }

    private static void indexOfOthers() {
        indexDue(589, 0, Bench.SEEK, 0, 0);
        indexDue(590, 1, Bench.SEEK, 0, 0);
        indexDue(0, 0, Bench.WRITE_RECORD, 0, 0);
        indexDue(1, 1, Bench.WRITE_RECORD, 0, 0);
        indexDue(0, 0, Bench.ERASE, 0, 0);
        indexDue(599, 1, Bench.ERASE, 0, 0);
        Bench b = new Bench();
        b.layThirty();
        b.runAt(560, Bench.READ_DATA, 0, 0);
        CHECKS.due("data that end before it", b.unit.look(3), 0);
        b.runAt(580, Bench.READ_DATA, 0, 0);
        CHECKS.due("data that end at it", b.unit.look(3), 1);
        b.runAt(580, Bench.READ_COUNT, 0, 0);
        CHECKS.due("a count that ends at it", b.unit.look(3), 1);
        b.runAt(0, Bench.READ_COUNT, 0, 0);
        CHECKS.due("a count that begins at it", b.unit.look(3), 0);
        b.runAt(560, Bench.READ_COUNT, 0, 0, Bench.WRITE_RECORD, 254, 0);
        CHECKS.due("a new record that ends at it", b.unit.look(3), 1);
    }

    private static void seekTimes() {
        int[][] fromToTime = {{0, 0, 10}, {0, 1, 13}, {1, 0, 13}, {0, 31, 103}, {31, 0, 103}, {31, 31, 10},
            {31, 30, 13}, {5, 20, 55}, {20, 5, 55}};
        for (int[] row : fromToTime) {
            Bench b = new Bench();
            b.run(Bench.SEEK, row[0], 0);
            CHECKS.due("from " + row[0] + " to " + row[1], b.time(CHECKS, "seek", 0, Bench.SEEK, row[1], 0), row[2]);
            CHECKS.due("head", b.unit.look(4), row[1]);
        }
    }
}
