import java.io.IOException;
import java.nio.file.Files;
import java.nio.file.Path;

/** The example in README.md, line by line, with what it says that is answered. */
public final class ReadmeTest {
    private static final Checks CHECKS = new Checks();
    private static final Path README = Path.of("README.md");
    private static final Path THIS = Path.of("src", "test", "java", "ReadmeTest.java");
    private static final String FENCE = "```";

    public static void main(String[] args) throws IOException {
        example();
        exampleIsThatOfReadme();
        CHECKS.finish();
    }

    private static void example() {
        TrackUnit unit = new TrackUnit();

        // A record with the key 65 and the data 7, 8: lengths, key and data stand in the memory from 0 on.
        int[] bytes = {1, 2, 65, 7, 8};
        for (int i = 0; i < bytes.length; i++) {
            unit.poke(i, bytes[i]);
        }
        unit.command(9, 0, 0);              // WRITE RECORD
        int status = unit.start();          // 0
        CHECKS.due("WRITE RECORD", status, 0);
        long time = unit.clock();           // 23 places
        CHECKS.due("the clock", time, 23);

        // Search the key on the device, and read the data behind it.
        unit.command(-1, 0, 0);             // the program is empty
        unit.command(2, 2, 1);              // 0: SEARCH KEY equal to the byte at 2
        unit.command(4, 0, 0);              // 1: BACK to 0, passed over when it is found
        unit.command(7, 100, 60);           // 2: READ DATA to 100
        status = unit.start();              // 0
        CHECKS.due("READ DATA", status, 0);
        int left = unit.look(1);            // the residual, 58
        CHECKS.due("the residual", left, 58);
        int first = unit.peek(100);         // 7
        CHECKS.due("the first byte", first, 7);

        // What stands on the track: its records, the data's length and a byte of the first one.
        int records = unit.record(0, 0, 0); // 1
        CHECKS.due("records", records, 1);
        int length = unit.record(0, 1, 2);  // 2
        CHECKS.due("the data's length", length, 2);
        int key = unit.byteOf(0, 1, 0);     // 65
        CHECKS.due("the key", key, 65);

        // A spoiled record can't be read: the program ends at its command 2.
        unit.spoil(0, 1);
        status = unit.start();              // 4
        CHECKS.due("READ DATA of a spoiled record", status, 4);
        int ended = unit.look(0);           // 2
        CHECKS.due("where it ended", ended, 2);

        // Keyed records in a data set of four tracks; what stood on these is gone.
        int extents = unit.allocate(0, 4);  // 1
        CHECKS.due("extents", extents, 1);
        CHECKS.due("records that are left", unit.record(0, 0, 0), 0);
        int track = unit.store(0, 1234, 2); // on track 2, with the memory's first two bytes
        CHECKS.due("store", track, 2);
        int got = unit.fetch(0, 1234);      // 2 bytes, at the memory's beginning
        CHECKS.due("fetch", got, 2);
        int none = unit.fetch(0, 4321);     // -1, there is none
        CHECKS.due("fetch of none", none, -1);
        unit.scratch(0);                    // the tracks are free
        int free = unit.free();             // 32
        CHECKS.due("free tracks", free, 32);
    }

    /** Each line of README.md's example stands above, in the same order. */
    private static void exampleIsThatOfReadme() throws IOException {
        String here = Files.readString(THIS);
        int from = 0;
        boolean isInside = false;
        int lines = 0;
        for (String line : Files.readAllLines(README)) {
            if (line.startsWith(FENCE)) {
                isInside = line.equals(FENCE + "java");
            } else if (isInside && !line.isBlank()) {
                int at = here.indexOf("        " + line + "\n", from);
                CHECKS.so("this stands in README.md and not here: " + line, at >= 0);
                from = Math.max(from, at);
                lines++;
            }
        }
        CHECKS.so("README.md has an example", lines > 0);
    }
}
