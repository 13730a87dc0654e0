/**
 * The unit as tests use it: what it answers beyond its 512th call is free, so no test may go on
 * that long. It has the face of the class, and ends a test that does.
 */
final class CountedUnit {
    static final int MOST_CALLS = 512;

    private final TrackUnit unit = new TrackUnit();
    private int calls;

    private TrackUnit called() {
        calls++;
        if (calls > MOST_CALLS) {
            throw new AssertionError("a test uses one unit for more than " + MOST_CALLS + " calls");
        }
        return unit;
    }

    int calls() {
        return calls;
    }

    int command(int kind, int a, int b) {
        return called().command(kind, a, b);
    }

    void poke(int i, int v) {
        called().poke(i, v);
    }

    int peek(int i) {
        return called().peek(i);
    }

    int start() {
        return called().start();
    }

    int look(int what) {
        return called().look(what);
    }

    long clock() {
        return called().clock();
    }

    int record(int track, int k, int what) {
        return called().record(track, k, what);
    }

    int byteOf(int track, int k, int i) {
        return called().byteOf(track, k, i);
    }

    void spoil(int track, int k) {
        called().spoil(track, k);
    }

    int allocate(int set, int tracks) {
        return called().allocate(set, tracks);
    }

    void scratch(int set) {
        called().scratch(set);
    }

    int trackOf(int set, int j) {
        return called().trackOf(set, j);
    }

    int free() {
        return called().free();
    }

    int store(int set, int key, int n) {
        return called().store(set, key, n);
    }

    int fetch(int set, int key) {
        return called().fetch(set, key);
    }
}
