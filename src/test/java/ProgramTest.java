/** Promises 1 to 4: a new object, command, poke and peek. */
public final class ProgramTest {
    private static final Checks CHECKS = new Checks();

    public static void main(String[] args) {
        newObject();
        commands();
        wrongCommands();
        memory();
        memoryEdges();
        CHECKS.finish();
    }

    private static void newObject() {
        CountedUnit x = new CountedUnit();
        CHECKS.due("new clock", x.clock(), 0);
        for (int what = 0; what <= 5; what++) {
            CHECKS.due("new look " + what, x.look(what), 0);
        }
        for (int t = 0; t < 32; t++) {
            CHECKS.due("new track " + t, x.record(t, 0, 0), 0);
        }
        for (int set = 0; set < 6; set++) {
            CHECKS.due("new data set " + set, x.trackOf(set, -1), 0);
        }
        for (int i = 0; i < 256; i++) {
            CHECKS.due("new byte " + i, x.peek(i), 0);
        }
        CHECKS.due("new free", x.free(), 32);
        CHECKS.due("new start", x.start(), 0);
        CHECKS.due("clock behind no program", x.clock(), 0);
        CHECKS.due("first command", x.command(11, 0, 1), 1);
        CHECKS.due("another object", new CountedUnit().start(), 0);
    }

    private static void commands() {
        CountedUnit x = new CountedUnit();
        CHECKS.due("empty an empty program", x.command(-1, 9, 9), 0);
        for (int kind = 0; kind <= 11; kind++) {
            CHECKS.due("kind " + kind, x.command(kind, Integer.MIN_VALUE, Integer.MAX_VALUE), kind + 1);
        }
        for (int n = 13; n <= 16; n++) {
            CHECKS.due("command " + n, x.command(11, 0, 1), n);
        }
        CHECKS.state("command 17", () -> x.command(11, 0, 1));
        CHECKS.due("empty with 16", x.command(-1, 0, 0), 0);
        CHECKS.due("empty program", x.start(), 0);
        CHECKS.due("clock", x.clock(), 0);
        for (int n = 1; n <= 16; n++) {
            CHECKS.due("again command " + n, x.command(11, 0, 1), n);
        }
        CHECKS.state("again command 17", () -> x.command(11, 0, 1));
        CHECKS.due("16 commands", x.start(), 0);
        CHECKS.due("each skips a place", x.clock(), 16);
        CHECKS.due("the program stays", x.start(), 0);
        CHECKS.due("each skips one more", x.clock(), 32);
    }

    private static void wrongCommands() {
        CountedUnit x = new CountedUnit();
        for (int kind : new int[] {-2, 12, Integer.MIN_VALUE, Integer.MAX_VALUE}) {
            CHECKS.argument("kind " + kind, () -> x.command(kind, 0, 0));
        }
        CHECKS.due("none of them came in", x.command(0, 32, 0), 1);
        for (int n = 2; n <= 16; n++) {
            x.command(11, 0, 0);
        }
        CHECKS.argument("no such kind, with 16", () -> x.command(12, 0, 0));
        CHECKS.due("numbers are looked at in the run", x.start(), 2);
    }

    private static void memory() {
        CountedUnit x = new CountedUnit();
        for (int i = 0; i < 256; i++) {
            x.poke(i, 255 - i);
        }
        for (int i = 0; i < 256; i++) {
            CHECKS.due("byte " + i, x.peek(i), 255 - i);
        }
    }

    private static void memoryEdges() {
        CountedUnit x = new CountedUnit();
        x.poke(100, 155);
        x.poke(102, 153);
        int[][] lowest = {{-1, 255}, {256, 0}, {0x1234, 0x34}, {-128, 128}, {Integer.MIN_VALUE + 7, 7}};
        for (int[] pair : lowest) {
            x.poke(101, pair[0]);
            CHECKS.due("lowest bits of " + pair[0], x.peek(101), pair[1]);
            CHECKS.due("the byte before", x.peek(100), 155);
            CHECKS.due("the byte behind", x.peek(102), 153);
        }
        for (int i : new int[] {-1, 256, Integer.MIN_VALUE, Integer.MAX_VALUE}) {
            CHECKS.argument("peek " + i, () -> x.peek(i));
            CHECKS.argument("poke " + i, () -> {
                x.poke(i, 1);
                return 0;
            });
        }
        CHECKS.due("clock", x.clock(), 0);
    }
}
