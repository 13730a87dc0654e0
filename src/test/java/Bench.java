/** A unit with short ways to lay out records and to run programs. */
final class Bench {
    static final int SEEK = 0;
    static final int NUMBER = 1;
    static final int KEY = 2;
    static final int HIGHER = 3;
    static final int BACK = 4;
    static final int READ_COUNT = 5;
    static final int READ_KEY = 6;
    static final int READ_DATA = 7;
    static final int WRITE_DATA = 8;
    static final int WRITE_RECORD = 9;
    static final int ERASE = 10;
    static final int SKIP = 11;

    final CountedUnit unit = new CountedUnit();

    void bytes(int from, int... values) {
        for (int i = 0; i < values.length; i++) {
            unit.poke(from + i, values[i]);
        }
    }

    /** Commands as triples of kind, a and b. */
    int run(int... triples) {
        unit.command(-1, 0, 0);
        for (int i = 0; i < triples.length; i += 3) {
            unit.command(triples[i], triples[i + 1], triples[i + 2]);
        }
        return unit.start();
    }

    /**
     * Lays records with these pairs of lengths of key and data on a track, from its beginning on; byte
     * i of record k becomes 10 * k + i. The end of the memory is used for it, as many bytes as the
     * highest of these values tells.
     */
    void lay(int track, int... lengths) {
        run(SEEK, track, 0, ERASE, 0, 0);
        int base = 255 - highestByte(lengths);
        for (int i = base + 10; i < 256; i++) {
            unit.poke(i, i - base);
        }
        for (int k = 1; k <= lengths.length / 2; k++) {
            // Its lengths stand before its bytes, over some that only records before it had.
            int a = base + 10 * k - 2;
            bytes(a, lengths[2 * k - 2], lengths[2 * k - 1]);
            if (k == 1) {
                run(WRITE_RECORD, a, 0);
            } else {
                run(NUMBER, k - 1, 0, BACK, 0, 0, WRITE_RECORD, a, 0);
            }
        }
    }

    /** Thirty records without key and data: the track under the head is full to its last place. */
    void layThirty() {
        bytes(254, 0, 0);
        int[] commands = new int[48];
        for (int i = 0; i < commands.length; i += 3) {
            commands[i] = WRITE_RECORD;
            commands[i + 1] = 254;
        }
        run(commands);
        System.arraycopy(new int[] {NUMBER, 16, 0, BACK, 0, 0}, 0, commands, 0, 6);
        run(commands);
    }

    private static int highestByte(int... lengths) {
        int highest = 0;
        for (int k = 1; k <= lengths.length / 2; k++) {
            highest = Math.max(highest, 10 * k - 1 + lengths[2 * k - 2] + lengths[2 * k - 1]);
        }
        return highest;
    }

    /** Lets the clock go on to this place without reading anything. */
    void turnTo(int place) {
        int distance = (int) Math.floorMod(place - unit.clock(), 600L);
        run(SKIP, 0, distance);
    }

    /** The same, then a run. */
    int runAt(int place, int... triples) {
        turnTo(place);
        return run(triples);
    }

    /** How many places a program takes; its status must be as given. */
    long time(Checks checks, String what, int status, int... triples) {
        long before = unit.clock();
        checks.due(what + ": status", run(triples), status);
        return unit.clock() - before;
    }

    /** The same, from this place on. */
    long timeAt(int place, Checks checks, String what, int status, int... triples) {
        turnTo(place);
        return time(checks, what, status, triples);
    }
}
