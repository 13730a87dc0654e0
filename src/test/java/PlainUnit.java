import java.util.ArrayList;
import java.util.Arrays;
import java.util.List;
import java.util.TreeSet;

/**
 * The document once more, as plainly as can be: the clock goes on place by place, and records are
 * objects in lists. The unit's answers are compared with these.
 */
final class PlainUnit {
    private static final class Rec {
        int[] key;
        int[] data;
        boolean spoiled;

        int places() {
            return 20 + key.length + data.length;
        }
    }

    private enum Part { COUNT, KEY, DATA }

    /** Ends a run with a status. */
    private static final class Ended extends Exception {
        private static final long serialVersionUID = 1;
        final int status;

        Ended(int status) {
            this.status = status;
        }
    }

    private final List<List<Rec>> tracks = new ArrayList<>();
    private final List<TreeSet<Integer>> sets = new ArrayList<>();
    private final int[] memory = new int[256];
    private final List<int[]> program = new ArrayList<>();
    private long clock;
    private int head;
    private Rec oriented;
    private Part behind;
    private final int[] looks = new int[6];
    private int sinceSeek;
    private int next;

    PlainUnit() {
        for (int t = 0; t < 32; t++) {
            tracks.add(new ArrayList<>());
        }
        for (int set = 0; set < 6; set++) {
            sets.add(new TreeSet<>());
        }
    }

    private static void argument(boolean isSo) {
        if (!isSo) {
            throw new IllegalArgumentException();
        }
    }

    private static void state(boolean isSo) {
        if (!isSo) {
            throw new IllegalStateException();
        }
    }

    int command(int kind, int a, int b) {
        argument(kind >= -1 && kind < 12);
        if (kind == -1) {
            program.clear();
            return 0;
        }
        state(program.size() < 16);
        program.add(new int[] {kind, a, b});
        return program.size();
    }

    void poke(int i, int v) {
        argument(i >= 0 && i < 256);
        memory[i] = v & 255;
    }

    int peek(int i) {
        argument(i >= 0 && i < 256);
        return memory[i];
    }

    int look(int what) {
        argument(what >= 0 && what < 6);
        return what == 4 ? head : looks[what];
    }

    long clock() {
        return clock;
    }

    private Rec find(int track, int k) {
        argument(track >= 0 && track < 32);
        argument(k >= 1 && k <= tracks.get(track).size());
        return tracks.get(track).get(k - 1);
    }

    private int begin(int track, Rec rec) {
        int place = 0;
        for (Rec other : tracks.get(track)) {
            if (other == rec) {
                break;
            }
            place += other.places();
        }
        return place;
    }

    int record(int track, int k, int what) {
        argument(track >= 0 && track < 32);
        if (k == 0) {
            return tracks.get(track).size();
        }
        Rec rec = find(track, k);
        argument(what >= 0 && what < 4);
        int[] answers = {begin(track, rec), rec.key.length, rec.data.length, rec.spoiled ? 1 : 0};
        return answers[what];
    }

    int byteOf(int track, int k, int i) {
        Rec rec = find(track, k);
        argument(i >= 0 && i < rec.key.length + rec.data.length);
        return i < rec.key.length ? rec.key[i] : rec.data[i - rec.key.length];
    }

    void spoil(int track, int k) {
        find(track, k).spoiled = true;
    }

    private TreeSet<Integer> unowned() {
        TreeSet<Integer> left = new TreeSet<>();
        for (int t = 0; t < 32; t++) {
            left.add(t);
        }
        for (TreeSet<Integer> set : sets) {
            left.removeAll(set);
        }
        return left;
    }

    int allocate(int set, int count) {
        argument(set >= 0 && set < 6 && count >= 1 && count <= 32);
        state(sets.get(set).isEmpty());
        TreeSet<Integer> left = unowned();
        state(left.size() >= count);
        TreeSet<Integer> taken = new TreeSet<>();
        int extents = 0;
        for (int i = 0; i < count; i++) {
            int track = left.pollFirst();
            extents += taken.contains(track - 1) ? 0 : 1;
            taken.add(track);
        }
        state(extents <= 4);
        sets.set(set, taken);
        for (int track : taken) {
            tracks.get(track).clear();
        }
        return extents;
    }

    void scratch(int set) {
        argument(set >= 0 && set < 6);
        state(!sets.get(set).isEmpty());
        sets.set(set, new TreeSet<>());
    }

    int trackOf(int set, int j) {
        argument(set >= 0 && set < 6);
        if (j == -1) {
            return sets.get(set).size();
        }
        argument(j >= 0 && j < sets.get(set).size());
        return new ArrayList<>(sets.get(set)).get(j);
    }

    int free() {
        return unowned().size();
    }

    private List<Integer> near(int set, int key) {
        List<Integer> all = new ArrayList<>(sets.get(set));
        List<Integer> near = new ArrayList<>();
        int home = Integer.remainderUnsigned(key, all.size());
        for (int i = 0; i < 4 && i < all.size(); i++) {
            near.add(all.get((home + i) % all.size()));
        }
        return near;
    }

    private static int[] keyBytes(int key) {
        return new int[] {key >>> 24, key >>> 16 & 255, key >>> 8 & 255, key & 255};
    }

    int store(int set, int key, int n) {
        argument(set >= 0 && set < 6 && n >= 0 && n <= 60);
        state(!sets.get(set).isEmpty());
        int[] data = Arrays.copyOf(memory, n);
        for (int track : near(set, key)) {
            for (Rec rec : tracks.get(track)) {
                if (Arrays.equals(rec.key, keyBytes(key))) {
                    state(rec.data.length == n);
                    rec.data = data;
                    rec.spoiled = false;
                    return track;
                }
            }
        }
        for (int track : near(set, key)) {
            Rec rec = new Rec();
            rec.key = keyBytes(key);
            rec.data = data;
            if (begin(track, null) + rec.places() <= 600) {
                tracks.get(track).add(rec);
                return track;
            }
        }
        throw new IllegalStateException();
    }

    int fetch(int set, int key) {
        argument(set >= 0 && set < 6);
        state(!sets.get(set).isEmpty());
        for (int track : near(set, key)) {
            for (Rec rec : tracks.get(track)) {
                if (Arrays.equals(rec.key, keyBytes(key))) {
                    if (rec.spoiled) {
                        return -2;
                    }
                    System.arraycopy(rec.data, 0, memory, 0, rec.data.length);
                    return rec.data.length;
                }
            }
        }
        return -1;
    }

    int start() {
        Arrays.fill(looks, 0, 4, 0);
        sinceSeek = 0;
        oriented = null;
        next = 0;
        int number = 0;
        int searched = -9;
        int status = 0;
        try {
            while (next < program.size()) {
                number = next;
                int[] c = program.get(number);
                if (looks[2] == 400) {
                    throw new Ended(6);
                }
                checkNumbers(c, number, searched);
                looks[2]++;
                next++;
                perform(c);
                searched = c[0] >= 1 && c[0] <= 3 ? number : -9;
            }
            number = program.size();
        } catch (Ended e) {
            status = e.status;
        }
        looks[0] = number;
        return status;
    }

    private void checkNumbers(int[] c, int number, int searched) throws Ended {
        long a = c[1];
        long b = c[2];
        boolean isSo = true;
        boolean place = a >= 0 && a <= 255;
        if (c[0] == 0) {
            isSo = a >= 0 && a < 32;
        } else if (c[0] == 2 || c[0] == 3) {
            isSo = place && b >= 0 && b <= 8 && a + b <= 256;
        } else if (c[0] == 4) {
            isSo = searched == number - 1 && a >= 0 && a <= number;
        } else if (c[0] == 5) {
            isSo = place && a + 4 <= 256;
        } else if (c[0] >= 6 && c[0] <= 8) {
            isSo = place && b >= 0 && b <= 60 && a + b <= 256;
        } else if (c[0] == 9) {
            isSo = place && a < 255 && memory[c[1]] <= 8 && memory[c[1] + 1] <= 60
                && a + 2 + memory[c[1]] + memory[c[1] + 1] <= 256;
        } else if (c[0] == 11) {
            isSo = b >= 0 && b <= 600;
        }
        if (!isSo) {
            throw new Ended(2);
        }
    }

    private void tick() {
        clock++;
        if (clock % 600 == 0) {
            looks[3]++;
            sinceSeek++;
        }
    }

    private void ticks(int count) {
        for (int i = 0; i < count; i++) {
            tick();
        }
    }

    private void tickTo(int place) {
        while (clock % 600 != place % 600) {
            tick();
        }
    }

    private void moveOn() throws Ended {
        List<Rec> on = tracks.get(head);
        if (on.isEmpty()) {
            tick();
            tickTo(0);
            tick();
            tickTo(0);
            throw new Ended(1);
        }
        if (oriented != null) {
            int k = on.indexOf(oriented);
            oriented = on.get((k + 1) % on.size());
            tickTo(begin(head, oriented));
            return;
        }
        while (true) {
            for (Rec rec : on) {
                if (begin(head, rec) == clock % 600) {
                    oriented = rec;
                    return;
                }
            }
            tick();
        }
    }

    private void pass(Part part) {
        int place = begin(head, oriented) + 20;
        if (part != Part.COUNT) {
            place += oriented.key.length;
        }
        if (part == Part.DATA) {
            place += oriented.data.length;
        }
        tickTo(place);
        behind = part;
    }

    private void come(Part part) throws Ended {
        if (oriented == null || behind.compareTo(part) >= 0) {
            moveOn();
        }
        pass(part);
        looks[5]++;
    }

    private void found(boolean isFound) throws Ended {
        if (sinceSeek >= 3) {
            throw new Ended(1);
        }
        if (isFound) {
            next++;
        }
    }

    private void goToEnd() {
        if (oriented == null) {
            tickTo(0);
        } else {
            tickTo(begin(head, oriented) + oriented.places());
        }
    }

    private void dropBehind() {
        List<Rec> on = tracks.get(head);
        int kept = oriented == null ? 0 : on.indexOf(oriented) + 1;
        on.subList(kept, on.size()).clear();
    }

    private int[] bytes(int from, int length) {
        return Arrays.copyOfRange(memory, from, from + length);
    }

    private void perform(int[] c) throws Ended {
        int a = c[1];
        int b = c[2];
        switch (c[0]) {
            case 0 -> {
                ticks(10 + 3 * Math.abs(a - head));
                head = a;
                oriented = null;
                sinceSeek = 0;
            }
            case 1 -> {
                moveOn();
                pass(Part.COUNT);
                found(tracks.get(head).indexOf(oriented) + 1 == a);
            }
            case 2, 3 -> {
                moveOn();
                pass(Part.KEY);
                int order = Arrays.compare(oriented.key, bytes(a, b));
                found(c[0] == 2 ? order == 0 : order >= 0);
            }
            case 4 -> next = a;
            case 5 -> {
                moveOn();
                pass(Part.COUNT);
                memory[a] = head;
                memory[a + 1] = tracks.get(head).indexOf(oriented) + 1;
                memory[a + 2] = oriented.key.length;
                memory[a + 3] = oriented.data.length;
                found(false);
            }
            case 6 -> {
                come(Part.KEY);
                read(oriented.key, a, b);
            }
            case 7 -> {
                come(Part.DATA);
                looks[1] = b;
                if (oriented.spoiled) {
                    throw new Ended(4);
                }
                read(oriented.data, a, b);
            }
            case 8 -> {
                come(Part.DATA);
                looks[1] = b - oriented.data.length;
                if (looks[1] != 0) {
                    throw new Ended(3);
                }
                oriented.data = bytes(a, b);
                oriented.spoiled = false;
            }
            case 9 -> writeRecord(a);
            case 10 -> {
                goToEnd();
                dropBehind();
                ticks(5);
                oriented = null;
            }
            default -> {
                ticks(b);
                oriented = b == 0 ? oriented : null;
            }
        }
    }

    private void read(int[] from, int a, int b) throws Ended {
        looks[1] = b - from.length;
        System.arraycopy(from, 0, memory, a, Math.min(b, from.length));
        if (looks[1] < 0) {
            throw new Ended(3);
        }
    }

    private void writeRecord(int a) throws Ended {
        Rec rec = new Rec();
        rec.key = bytes(a + 2, memory[a]);
        rec.data = bytes(a + 2 + memory[a], memory[a + 1]);
        goToEnd();
        int end = oriented == null ? 0 : begin(head, oriented) + oriented.places();
        if (end + rec.places() > 600) {
            throw new Ended(5);
        }
        dropBehind();
        tracks.get(head).add(rec);
        oriented = rec;
        ticks(rec.places());
        behind = Part.DATA;
        looks[5]++;
    }
}
