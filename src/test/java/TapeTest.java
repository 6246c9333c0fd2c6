/** Promises 1 and 2: a new object, and feed. */
public final class TapeTest {
    private static final int FULL = 65536;

    public static void main(String[] args) {
        newObject();
        cellsOfASegment();
        feeds();
        wrongSigns();
        fullTape();
        tapeIsEmptyBehindCompile();
        Check.end();
    }

    private static void newObject() {
        VitalTwin twin = new VitalTwin(64);
        Check.due("count(0) of a new object", 0, twin.count(0));
        for (int what = 1; what <= 13; what++) {
            Check.due("count(" + what + ") without a program", VitalTwin.NONE, twin.count(what));
        }
        Check.due("symbol without a program", -1, twin.symbol(0, 0));
        Check.due("name without a program", -1, twin.name(0, 0));
        Check.due("code without a program", -1, twin.code(0, 0));
        Check.due("text without a program", -1, twin.text(0, 0, 0));
        Check.due("probe without a program", -1, twin.probe(0, 0, 0, 0));
        Check.due("input without a program", false, twin.input(0, 0));
        Check.due("flip without a program", false, twin.flip(0, -1, 0, 0));
        Check.due("power without a program", false, twin.power());
        Check.due("compile of an empty tape", 1, twin.compile());
    }

    /** The numbers outside 16 .. 4096 are the nearest of these. */
    private static void cellsOfASegment() {
        int[] asked = {Integer.MIN_VALUE, -1, 0, 15, 16, 17, 4095, 4096, 4097, Integer.MAX_VALUE};
        int[] due = {16, 16, 16, 16, 16, 17, 4095, 4096, 4096, 4096};
        for (int n = 0; n < asked.length; n++) {
            String fits = "in a[" + (due[n] - 1) + "]: bool; state s: bool = true; cycle {}";
            VitalTwin twin = new VitalTwin(asked[n]);
            Check.due(asked[n] + " cells: all of them", 0, Check.compile(twin, fits));
            Check.due(asked[n] + " cells: count(3)", due[n], twin.count(3));
            String more = "in a[" + (due[n] - 1) + "]: bool; in b[2]: bool; cycle {}";
            Check.due(asked[n] + " cells: one more", 11 + 16 * more.length(), Check.compile(twin, more));
        }
    }

    private static void feeds() {
        VitalTwin twin = new VitalTwin(16);
        Check.due("feed of sixteen", 16, twin.feed(0x6162636465666768L, 0x696a6b6c6d6e6f70L));
        Check.due("zeros are left out", 18, twin.feed(0x0061000000000000L, 0x0000000000006200L));
        Check.due("feed of nothing", 18, twin.feed(0, 0));
        Check.due("count(0)", 18, twin.count(0));
        VitalTwin order = new VitalTwin(16);
        // "cycle" from the highest byte of a to the lowest of b, with zeros between
        order.feed(0x6300790063006c00L, 0x65007b000000007dL);
        Check.due("signs come from the highest to the lowest", 0, order.compile());
    }

    private static void wrongSigns() {
        VitalTwin twin = new VitalTwin(16);
        twin.feed(0x6100000000000000L, 0);
        for (int sign = 1; sign < 256; sign++) {
            boolean isSign = sign == 10 || sign >= 32 && sign <= 126;
            for (int k = 0; k < 16; k++) {
                VitalTwin one = new VitalTwin(16);
                long bytes = (long) sign << 8 * (k % 8);
                int got = k < 8 ? one.feed(0, bytes) : one.feed(bytes, 0x6161616161616161L);
                Check.due("feed of sign " + sign, isSign ? k < 8 ? 1 : 9 : -1, got);
                Check.due("count(0) behind sign " + sign, Math.max(0, got), one.count(0));
            }
        }
        Check.due("good ones ahead of a wrong one", -1, twin.feed(0x6162636465666768L, 0x6162636465666780L));
        Check.due("nothing has changed", 1, twin.count(0));
    }

    private static void fullTape() {
        VitalTwin twin = new VitalTwin(16);
        for (int length = 16; length <= FULL - 16; length += 16) {
            Check.due("feed", length, twin.feed(0x2020202020202020L, 0x2020202020202020L));
        }
        Check.due("eight more", FULL - 8, twin.feed(0, 0x2020202020202020L));
        Check.due("nine are too many", -1, twin.feed(0x20, 0x2020202020202020L));
        Check.due("count(0)", FULL - 8, twin.count(0));
        Check.due("eight fill it", FULL, twin.feed(0x6379636c657b7d20L, 0));
        Check.due("one is too much", -1, twin.feed(0, 0x20));
        Check.due("nothing may come", FULL, twin.feed(0, 0));
        Check.due("a full tape is compiled", 0, twin.compile());
    }

    private static void tapeIsEmptyBehindCompile() {
        VitalTwin twin = new VitalTwin(16);
        Check.feed(twin, "cycle {");
        Check.due("a fault", 1 + 16 * 7, twin.compile());
        Check.due("count(0) behind a fault", 0, twin.count(0));
        Check.due("feed begins anew", 8, twin.feed(0x6379636c657b7d20L, 0));
        Check.due("a program", 0, twin.compile());
        Check.due("count(0) behind a program", 0, twin.count(0));
    }
}
