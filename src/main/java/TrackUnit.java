/**
 * A turning store of tracks with records of count, key and data. Numbers of promises are those of
 * the document.
 */
public final class TrackUnit {
    private static final int TRACKS = 32;
    private static final int PLACES = 600;
    private static final int COUNT_PLACES = 20;
    private static final int MOST_RECORDS = PLACES / COUNT_PLACES;
    private static final int MOST_KEY = 8;
    private static final int MOST_DATA = 60;
    private static final int MEMORY_BYTES = 256;

    private static final int EMPTY_PROGRAM = -1;
    private static final int SEEK = 0;
    private static final int SEARCH_NUMBER = 1;
    private static final int SEARCH_KEY = 2;
    private static final int SEARCH_KEY_OR_HIGHER = 3;
    private static final int BACK = 4;
    private static final int READ_COUNT = 5;
    private static final int READ_KEY = 6;
    private static final int READ_DATA = 7;
    private static final int WRITE_DATA = 8;
    private static final int WRITE_RECORD = 9;
    private static final int ERASE = 10;
    private static final int SKIP = 11;

    private static final int STATUS_DONE = 0;
    private static final int STATUS_NOT_FOUND = 1;
    private static final int STATUS_NOT_SO = 2;
    private static final int STATUS_OTHER_LENGTH = 3;
    private static final int STATUS_SPOILED = 4;
    private static final int STATUS_NO_ROOM = 5;
    private static final int STATUS_TOO_MANY = 6;

    /** The parts of a record, in the order in which they come under the head. */
    private static final int COUNT = 1;
    private static final int KEY = 2;
    private static final int DATA = 3;

    private static final int SETS = 6;
    private static final int KEYED_LENGTH = 4;
    private static final int FETCH_NONE = -1;
    private static final int FETCH_SPOILED = -2;

    private final Bytes memory;
    private final Track[] tracks;
    private final Program program;
    private final Head head;
    private final Channel channel;
    private final DataSets sets;

    /** Promise 1. */
    public TrackUnit() {
        memory = new Bytes(MEMORY_BYTES);
        tracks = new Track[TRACKS];
        for (int t = 0; t < TRACKS; t++) {
            tracks[t] = new Track();
        }
        program = new Program();
        head = new Head(tracks);
        channel = new Channel(program, head, memory);
        sets = new DataSets(tracks);
    }

    /** Promise 2. */
    public int command(int kind, int a, int b) throws IllegalArgumentException, IllegalStateException {
        needArgument(isWithin(kind, EMPTY_PROGRAM, SKIP));
        if (kind == EMPTY_PROGRAM) {
            program.clear();
        } else {
            needState(!program.isFull());
            program.add(kind, a, b);
        }
        return program.size;
    }

    /** Promise 3. */
    public void poke(int i, int v) throws IllegalArgumentException {
        needArgument(isWithin(i, 0, MEMORY_BYTES - 1));
        memory.set(i, v);
    }

    /** Promise 4. */
    public int peek(int i) throws IllegalArgumentException {
        needArgument(isWithin(i, 0, MEMORY_BYTES - 1));
        return memory.get(i);
    }

    /** Promise 5. */
    public int start() {
        return channel.run();
    }

    /** Promise 6. */
    public int look(int what) throws IllegalArgumentException {
        needArgument(isWithin(what, 0, 5));
        switch (what) {
            case 0:
                return channel.endedAt;
            case 1:
                return channel.residual;
            case 2:
                return channel.begun;
            case 3:
                return channel.indexPassed();
            case 4:
                return head.over;
            default:
                return channel.transfers;
        }
    }

    /** Promise 7. */
    public long clock() {
        return head.time;
    }

    /** Promise 8. */
    public int record(int track, int k, int what) throws IllegalArgumentException {
        needArgument(isWithin(track, 0, TRACKS - 1));
        Track on = tracks[track];
        if (k == 0) {
            return on.records;
        }
        needArgument(on.has(k) && isWithin(what, 0, 3));
        switch (what) {
            case 0:
                return on.beginOf(k);
            case 1:
                return on.keyLength(k);
            case 2:
                return on.dataLength(k);
            default:
                return on.isSpoiled(k) ? 1 : 0;
        }
    }

    /** Promise 9. */
    public int byteOf(int track, int k, int i) throws IllegalArgumentException {
        needRecord(track, k);
        Track on = tracks[track];
        needArgument(isWithin(i, 0, on.keyLength(k) + on.dataLength(k) - 1));
        return on.contentByte(k, i);
    }

    /** Promise 10. */
    public void spoil(int track, int k) throws IllegalArgumentException {
        needRecord(track, k);
        tracks[track].makeSpoiled(k);
    }

    /** Promise 11. */
    public int allocate(int set, int tracks) throws IllegalArgumentException, IllegalStateException {
        needSet(set);
        needArgument(isWithin(tracks, 1, TRACKS));
        needState(!sets.isAllocated(set) && sets.canTake(tracks));
        return sets.take(set, tracks);
    }

    /** Promise 12. */
    public void scratch(int set) throws IllegalArgumentException, IllegalStateException {
        needSet(set);
        needState(sets.isAllocated(set));
        sets.giveBack(set);
    }

    /** Promise 13. */
    public int trackOf(int set, int j) throws IllegalArgumentException {
        needSet(set);
        int size = sets.size(set);
        if (j == -1) {
            return size;
        }
        needArgument(isWithin(j, 0, size - 1));
        return sets.trackAt(set, j);
    }

    /** Promise 14. */
    public int free() {
        return sets.size(DataSets.NOBODY);
    }

    /** Promise 15. */
    public int store(int set, int key, int n) throws IllegalArgumentException, IllegalStateException {
        needSet(set);
        needArgument(isWithin(n, 0, MOST_DATA));
        needState(sets.isAllocated(set));
        int track = sets.trackHolding(set, key);
        if (track == DataSets.NO_TRACK) {
            return storeNew(set, key, n);
        }
        Track on = tracks[track];
        int k = on.numberOf(key);
        needState(on.dataLength(k) == n);
        on.writeData(k, memory, 0);
        return track;
    }

    /** Promise 16. */
    public int fetch(int set, int key) throws IllegalArgumentException, IllegalStateException {
        needSet(set);
        needState(sets.isAllocated(set));
        int track = sets.trackHolding(set, key);
        if (track == DataSets.NO_TRACK) {
            return FETCH_NONE;
        }
        Track on = tracks[track];
        int k = on.numberOf(key);
        if (on.isSpoiled(k)) {
            return FETCH_SPOILED;
        }
        int length = on.dataLength(k);
        on.readPart(k, DATA, memory, 0, length);
        return length;
    }

    private int storeNew(int set, int key, int n) {
        int track = sets.trackWithRoom(set, key, COUNT_PLACES + KEYED_LENGTH + n);
        needState(track != DataSets.NO_TRACK);
        Track on = tracks[track];
        int k = on.append(KEYED_LENGTH, n);
        on.writeKey(k, key);
        on.writeData(k, memory, 0);
        return track;
    }

    private void needRecord(int track, int k) {
        needArgument(isWithin(track, 0, TRACKS - 1));
        needArgument(tracks[track].has(k));
    }

    private static void needSet(int set) {
        needArgument(isWithin(set, 0, SETS - 1));
    }

    private static void needArgument(boolean isSo) {
        if (!isSo) {
            throw new IllegalArgumentException();
        }
    }

    private static void needState(boolean isSo) {
        if (!isSo) {
            throw new IllegalStateException();
        }
    }

    private static boolean isWithin(int value, int lowest, int highest) {
        return value >= lowest && value <= highest;
    }

    /** Four bytes to an element: the units of a run share one room, and tracks are most of a unit. */
    private static final class Bytes {
        private final int[] words;

        Bytes(int length) {
            words = new int[(length + 3) / 4];
        }

        int get(int i) {
            int shift = i % 4 * 8;
            return words[i / 4] >>> shift & 255;
        }

        void set(int i, int value) {
            int shift = i % 4 * 8;
            int others = words[i / 4] & ~(255 << shift);
            words[i / 4] = others | (value & 255) << shift;
        }
    }

    /**
     * The records of one track. Rows are indexed by the record's number, so that number 0, a
     * record of no places before the first one, can stand for the track's beginning.
     */
    private static final class Track {
        /** Also holds, behind the last record, where the next one would begin. */
        private final int[] begins = new int[MOST_RECORDS + 2];
        private final int[] keyLengths = new int[MOST_RECORDS + 1];
        private final boolean[] spoiled = new boolean[MOST_RECORDS + 1];
        /** What stands at each place; the places of counts are left unused. */
        private final Bytes places = new Bytes(PLACES);
        private int records;

        boolean has(int k) {
            return isWithin(k, 1, records);
        }

        int beginOf(int k) {
            return begins[k];
        }

        int keyLength(int k) {
            return keyLengths[k];
        }

        int dataLength(int k) {
            return begins[k + 1] - placeBehind(k, KEY);
        }

        boolean isSpoiled(int k) {
            return spoiled[k];
        }

        void makeSpoiled(int k) {
            spoiled[k] = true;
        }

        int contentByte(int k, int i) {
            return places.get(placeBehind(k, COUNT) + i);
        }

        int placeBehind(int k, int part) {
            if (part == DATA) {
                return begins[k + 1];
            }
            int behindCount = begins[k] + COUNT_PLACES;
            return part == KEY ? behindCount + keyLengths[k] : behindCount;
        }

        int firstFrom(int place) {
            for (int k = 1; k <= records; k++) {
                if (begins[k] >= place) {
                    return k;
                }
            }
            return 1;
        }

        int numberBehind(int k) {
            return k < records ? k + 1 : 1;
        }

        boolean hasRoomBehind(int k, int length) {
            return begins[k + 1] + length <= PLACES;
        }

        void cutBehind(int k) {
            records = k;
        }

        /** Key and data are the caller's to write then, as the room was to be looked at before. */
        int append(int keyLength, int dataLength) {
            records++;
            keyLengths[records] = keyLength;
            begins[records + 1] = begins[records] + COUNT_PLACES + keyLength + dataLength;
            return records;
        }

        void readPart(int k, int part, Bytes memory, int a, int length) {
            int from = placeBehind(k, part - 1);
            for (int i = 0; i < length; i++) {
                memory.set(a + i, places.get(from + i));
            }
        }

        /** New data are good, also where a record that is gone was spoiled. */
        void writeData(int k, Bytes memory, int a) {
            writePart(k, DATA, memory, a);
            spoiled[k] = false;
        }

        void writePart(int k, int part, Bytes memory, int a) {
            int from = placeBehind(k, part - 1);
            int length = placeBehind(k, part) - from;
            for (int i = 0; i < length; i++) {
                places.set(from + i, memory.get(a + i));
            }
        }

        void writeKey(int k, int key) {
            int from = placeBehind(k, COUNT);
            for (int i = 0; i < KEYED_LENGTH; i++) {
                places.set(from + i, keyedByte(key, i));
            }
        }

        /** Below 0, 0 or above 0 as the record's key is lower, equal or higher. */
        int compareKey(int k, Bytes memory, int a, int length) {
            int common = Math.min(keyLengths[k], length);
            for (int i = 0; i < common; i++) {
                int difference = contentByte(k, i) - memory.get(a + i);
                if (difference != 0) {
                    return difference;
                }
            }
            return keyLengths[k] - length;
        }

        /** The first record with this key, or 0. */
        int numberOf(int key) {
            for (int k = 1; k <= records; k++) {
                if (keyLengths[k] == KEYED_LENGTH && hasKeyed(k, key)) {
                    return k;
                }
            }
            return 0;
        }

        private boolean hasKeyed(int k, int key) {
            for (int i = 0; i < KEYED_LENGTH; i++) {
                if (contentByte(k, i) != keyedByte(key, i)) {
                    return false;
                }
            }
            return true;
        }

        private static int keyedByte(int key, int i) {
            return key >>> (KEYED_LENGTH - 1 - i) * 8 & 255;
        }
    }

    /** The commands that wait for a start. */
    private static final class Program {
        private static final int MOST_COMMANDS = 16;

        private final int[] kinds = new int[MOST_COMMANDS];
        private final int[] firsts = new int[MOST_COMMANDS];
        private final int[] seconds = new int[MOST_COMMANDS];
        private int size;

        boolean isFull() {
            return size == MOST_COMMANDS;
        }

        void clear() {
            size = 0;
        }

        void add(int kind, int a, int b) {
            kinds[size] = kind;
            firsts[size] = a;
            seconds[size] = b;
            size++;
        }
    }

    /** The head, the time, and the record to which the head is oriented. */
    private static final class Head {
        private static final int NO_RECORD = 0;
        private static final int SEEK_PLACES = 10;
        private static final int PLACES_A_TRACK = 3;

        private final Track[] tracks;
        private long time;
        private int over;
        private int record;
        private int behind;

        Head(Track[] tracks) {
            this.tracks = tracks;
        }

        Track track() {
            return tracks[over];
        }

        long turns() {
            return time / PLACES;
        }

        void goOn(int places) {
            time += places;
        }

        void disorient() {
            record = NO_RECORD;
        }

        void moveTo(int track) {
            goOn(SEEK_PLACES + PLACES_A_TRACK * Math.abs(track - over));
            over = track;
            disorient();
        }

        /** False on a track without records. */
        boolean moveOnBehind(int part) {
            if (!moveOn()) {
                return false;
            }
            goBehind(part);
            return true;
        }

        /** Moves on first unless the part is still to come; false on a track without records. */
        boolean comeBehind(int part) {
            boolean isToCome = record != NO_RECORD && behind < part;
            if (!isToCome && !moveOn()) {
                return false;
            }
            goBehind(part);
            return true;
        }

        /** Not oriented, that is behind number 0: the track's beginning. */
        void goToEnd() {
            goTo(tracks[over].placeBehind(record, DATA));
        }

        void orientToNew(int number) {
            record = number;
            goBehind(DATA);
        }

        private boolean moveOn() {
            Track on = tracks[over];
            if (on.records == 0) {
                time = (turns() + 2) * PLACES;
                return false;
            }
            int place = (int) (time % PLACES);
            record = record == NO_RECORD ? on.firstFrom(place) : on.numberBehind(record);
            goTo(on.beginOf(record));
            return true;
        }

        private void goBehind(int part) {
            behind = part;
            goTo(tracks[over].placeBehind(record, part));
        }

        private void goTo(int place) {
            int here = (int) (time % PLACES);
            time += (place - here + PLACES) % PLACES;
        }
    }

    /** Runs the program, and keeps what is to be known of the latest run. */
    private static final class Channel {
        private static final int MOST_DONE = 400;
        private static final int INDEX_LIMIT = 3;
        private static final int COUNT_BYTES = 4;
        private static final int LENGTH_BYTES = 2;
        private static final int MOST_SKIP = PLACES;
        private static final int ERASE_PLACES = 5;
        private static final int NO_BACK = -1;

        private final Program program;
        private final Head head;
        private final Bytes memory;
        private int endedAt;
        private int residual;
        private int begun;
        private int transfers;
        private long firstTurn;
        private long searchTurn;
        private int next;
        /** The one number at which a BACK could be now. */
        private int backNumber;

        Channel(Program program, Head head, Bytes memory) {
            this.program = program;
            this.head = head;
            this.memory = memory;
        }

        int indexPassed() {
            return (int) (head.turns() - firstTurn);
        }

        int run() {
            prepare();
            int status = STATUS_DONE;
            int number = 0;
            for (int i = 0; i <= MOST_DONE && next < program.size && status == STATUS_DONE; i++) {
                number = next;
                status = refusal(number);
                if (status == STATUS_DONE) {
                    begin(number);
                    status = perform(number);
                }
            }
            endedAt = status == STATUS_DONE ? program.size : number;
            head.disorient();
            return status;
        }

        private void prepare() {
            residual = 0;
            begun = 0;
            next = 0;
            backNumber = NO_BACK;
            firstTurn = head.turns();
            searchTurn = firstTurn;
        }

        /** The status that keeps a command from being begun, or STATUS_DONE. */
        private int refusal(int number) {
            if (begun == MOST_DONE) {
                return STATUS_TOO_MANY;
            }
            return canBegin(number) ? STATUS_DONE : STATUS_NOT_SO;
        }

        private void begin(int number) {
            boolean isSearch = isWithin(program.kinds[number], SEARCH_NUMBER, SEARCH_KEY_OR_HIGHER);
            begun++;
            next = number + 1;
            backNumber = isSearch ? next : NO_BACK;
        }

        private boolean canBegin(int number) {
            int a = program.firsts[number];
            int b = program.seconds[number];
            switch (program.kinds[number]) {
                case SEEK:
                    return isWithin(a, 0, TRACKS - 1);
                case SEARCH_KEY:
                case SEARCH_KEY_OR_HIGHER:
                    return isWithin(b, 0, MOST_KEY) && isInMemory(a, b);
                case BACK:
                    return number == backNumber && isWithin(a, 0, number);
                case READ_COUNT:
                    return isInMemory(a, COUNT_BYTES);
                case READ_KEY:
                case READ_DATA:
                case WRITE_DATA:
                    return isWithin(b, 0, MOST_DATA) && isInMemory(a, b);
                case WRITE_RECORD:
                    return isRecordInMemory(a);
                case SKIP:
                    return isWithin(b, 0, MOST_SKIP);
                default:
                    return true;
            }
        }

        private static boolean isInMemory(int a, int length) {
            return isWithin(a, 0, MEMORY_BYTES - 1) && a + length <= MEMORY_BYTES;
        }

        private boolean isRecordInMemory(int a) {
            if (!isInMemory(a, LENGTH_BYTES)) {
                return false;
            }
            int keyLength = memory.get(a);
            int dataLength = memory.get(a + 1);
            return keyLength <= MOST_KEY && dataLength <= MOST_DATA
                && isInMemory(a, LENGTH_BYTES + keyLength + dataLength);
        }

        private int perform(int number) {
            int a = program.firsts[number];
            int b = program.seconds[number];
            switch (program.kinds[number]) {
                case SEEK:
                    return seek(a);
                case SEARCH_NUMBER:
                    return searchNumber(a);
                case SEARCH_KEY:
                    return searchKey(a, b, false);
                case SEARCH_KEY_OR_HIGHER:
                    return searchKey(a, b, true);
                case BACK:
                    next = a;
                    return STATUS_DONE;
                case READ_COUNT:
                    return readCount(a);
                case READ_KEY:
                    return readPart(KEY, a, b);
                case READ_DATA:
                    return readPart(DATA, a, b);
                case WRITE_DATA:
                    return writeData(a, b);
                case WRITE_RECORD:
                    return writeRecord(a);
                case ERASE:
                    return erase();
                default:
                    return skip(b);
            }
        }

        private int seek(int track) {
            head.moveTo(track);
            searchTurn = head.turns();
            return STATUS_DONE;
        }

        private int searchNumber(int a) {
            if (!head.moveOnBehind(COUNT)) {
                return STATUS_NOT_FOUND;
            }
            passOverNextIf(head.record == a);
            return statusOfIndex();
        }

        private int searchKey(int a, int b, boolean alsoHigher) {
            if (!head.moveOnBehind(KEY)) {
                return STATUS_NOT_FOUND;
            }
            int order = head.track().compareKey(head.record, memory, a, b);
            passOverNextIf(order == 0 || alsoHigher && order > 0);
            return statusOfIndex();
        }

        private void passOverNextIf(boolean isFound) {
            if (isFound) {
                next++;
            }
        }

        private int statusOfIndex() {
            return head.turns() - searchTurn >= INDEX_LIMIT ? STATUS_NOT_FOUND : STATUS_DONE;
        }

        private int readCount(int a) {
            if (!head.moveOnBehind(COUNT)) {
                return STATUS_NOT_FOUND;
            }
            memory.set(a, head.over);
            memory.set(a + 1, head.record);
            memory.set(a + 2, head.track().keyLength(head.record));
            memory.set(a + 3, head.track().dataLength(head.record));
            return statusOfIndex();
        }

        private int readPart(int part, int a, int b) {
            if (!head.comeBehind(part)) {
                return STATUS_NOT_FOUND;
            }
            transfers++;
            Track on = head.track();
            if (part == DATA && on.isSpoiled(head.record)) {
                residual = b;
                return STATUS_SPOILED;
            }
            int length = part == KEY ? on.keyLength(head.record) : on.dataLength(head.record);
            residual = b - length;
            on.readPart(head.record, part, memory, a, Math.min(b, length));
            return residual < 0 ? STATUS_OTHER_LENGTH : STATUS_DONE;
        }

        private int writeData(int a, int b) {
            if (!head.comeBehind(DATA)) {
                return STATUS_NOT_FOUND;
            }
            transfers++;
            Track on = head.track();
            residual = b - on.dataLength(head.record);
            if (residual != 0) {
                return STATUS_OTHER_LENGTH;
            }
            on.writeData(head.record, memory, a);
            return STATUS_DONE;
        }

        private int writeRecord(int a) {
            int keyLength = memory.get(a);
            int dataLength = memory.get(a + 1);
            Track on = head.track();
            head.goToEnd();
            if (!on.hasRoomBehind(head.record, COUNT_PLACES + keyLength + dataLength)) {
                return STATUS_NO_ROOM;
            }
            on.cutBehind(head.record);
            int k = on.append(keyLength, dataLength);
            on.writePart(k, KEY, memory, a + LENGTH_BYTES);
            on.writeData(k, memory, a + LENGTH_BYTES + keyLength);
            transfers++;
            head.orientToNew(k);
            return STATUS_DONE;
        }

        private int erase() {
            head.goToEnd();
            head.track().cutBehind(head.record);
            head.goOn(ERASE_PLACES);
            head.disorient();
            return STATUS_DONE;
        }

        private int skip(int b) {
            head.goOn(b);
            if (b != 0) {
                head.disorient();
            }
            return STATUS_DONE;
        }
    }

    /** Which data set has which track, and where its keyed records may stand. */
    private static final class DataSets {
        private static final int NOBODY = -1;
        private static final int NO_TRACK = -1;
        private static final int MOST_EXTENTS = 4;
        private static final int MOST_NEAR = 4;

        private final Track[] tracks;
        /** A set's tracks are in ascending order, so this row alone tells its j-th one. */
        private final int[] owners = new int[TRACKS];

        DataSets(Track[] tracks) {
            this.tracks = tracks;
            for (int t = 0; t < TRACKS; t++) {
                owners[t] = NOBODY;
            }
        }

        int size(int owner) {
            int size = 0;
            for (int t = 0; t < TRACKS; t++) {
                if (owners[t] == owner) {
                    size++;
                }
            }
            return size;
        }

        boolean isAllocated(int set) {
            return size(set) > 0;
        }

        /** NO_TRACK when there is no j-th one. */
        int trackAt(int owner, int j) {
            int before = 0;
            for (int t = 0; t < TRACKS; t++) {
                if (owners[t] == owner) {
                    if (before == j) {
                        return t;
                    }
                    before++;
                }
            }
            return NO_TRACK;
        }

        boolean canTake(int wanted) {
            return size(NOBODY) >= wanted && extentsOfFree(wanted) <= MOST_EXTENTS;
        }

        /** Answers how many extents. */
        int take(int set, int wanted) {
            int extents = extentsOfFree(wanted);
            int taken = 0;
            for (int t = 0; t < TRACKS && taken < wanted; t++) {
                if (owners[t] == NOBODY) {
                    owners[t] = set;
                    tracks[t].cutBehind(0);
                    taken++;
                }
            }
            return extents;
        }

        void giveBack(int set) {
            for (int t = 0; t < TRACKS; t++) {
                if (owners[t] == set) {
                    owners[t] = NOBODY;
                }
            }
        }

        /** The track near the key's home that has a record with it, or NO_TRACK. */
        int trackHolding(int set, int key) {
            int size = size(set);
            for (int i = 0; i < MOST_NEAR && i < size; i++) {
                int track = trackNear(set, key, size, i);
                if (track != NO_TRACK && tracks[track].numberOf(key) > 0) {
                    return track;
                }
            }
            return NO_TRACK;
        }

        /** The first track near the key's home that has so many places left, or NO_TRACK. */
        int trackWithRoom(int set, int key, int length) {
            int size = size(set);
            for (int i = 0; i < MOST_NEAR && i < size; i++) {
                int track = trackNear(set, key, size, i);
                if (track != NO_TRACK && tracks[track].hasRoomBehind(tracks[track].records, length)) {
                    return track;
                }
            }
            return NO_TRACK;
        }

        private int trackNear(int set, int key, int size, int i) {
            if (size == 0) {
                return NO_TRACK;
            }
            long unsigned = key & 0xFFFFFFFFL;
            return trackAt(set, (int) ((unsigned + i) % size));
        }

        private int extentsOfFree(int wanted) {
            int extents = 0;
            int counted = 0;
            for (int t = 0; t < TRACKS && counted < wanted; t++) {
                if (owners[t] == NOBODY) {
                    counted++;
                    if (t == 0 || owners[t - 1] != NOBODY) {
                        extents++;
                    }
                }
            }
            return extents;
        }
    }
}
