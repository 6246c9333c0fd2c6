import java.util.Arrays;
import java.util.Map;
import java.util.Random;

/**
 * Programs that are made from seeds: the machine puts out what they mean, and what the document says of every CYCLE
 * without a FLIP holds at each of its STEPS; a probe tells what the same FLIPS do (Terms 4 and 5, Promises 7, 9 to 19).
 */
public final class MeaningTest {
    private static final int PROGRAMS = 400;
    private static final int CYCLES = 6;
    private static final long CODING = 58659;

    public static void main(String[] args) {
        for (int seed = 0; seed < PROGRAMS; seed++) {
            Maker made = new Maker(seed);
            VitalTwin twin = Check.made(made.text);
            putsOutWhatIsMeant(seed, made, twin);
            twin.power();
            keepsToItsRangesAndBound(seed, made, twin);
            probesTellWhatFlipsDo(seed, twin);
        }
        Check.end();
    }

    private static int symbolOf(VitalTwin twin, String name) {
        int i = 0;
        while (i < twin.count(1) && !Check.name(twin, i).equals(name)) {
            i++;
        }
        return i;
    }

    /** Gives a value for each cell of in, to the machine and to the rows alike. */
    private static void give(Random random, Maker made, VitalTwin twin, Map<String, long[]> cells) {
        int k = 0;
        for (Maker.Var port : made.ports) {
            for (int n = 0; port.kind().equals("in") && n < port.elements(); n++) {
                int value = port.type().low() + random.nextInt(port.type().high() - port.type().low() + 1);
                Check.due("input(" + k + ", " + value + ")", true, twin.input(k, value));
                cells.get(port.name())[n] = value;
                k++;
            }
        }
    }

    private static void putsOutWhatIsMeant(int seed, Maker made, VitalTwin twin) {
        Random random = new Random(seed);
        Map<String, long[]> cells = made.begin();
        for (int n = 0; n < CYCLES; n++) {
            if (n > 0) {
                give(random, made, twin, cells);
            }
            boolean traps = false;
            try {
                made.run(cells);
            } catch (Maker.Trap trap) {
                traps = true;
            }
            String where = "CYCLE " + n + " of program " + seed;
            Check.due("cycle() of " + where, traps ? 0 : 1, twin.cycle());
            Check.due("count(11) of " + where, traps ? 1 : 0, twin.count(11));
            compare(where, made, twin, cells, traps);
            if (traps) {
                Check.due("count(8) of " + where, n, twin.count(8));
                return;
            }
        }
        Check.due("count(8) of program " + seed, CYCLES, twin.count(8));
    }

    private static void compare(String where, Maker made, VitalTwin twin, Map<String, long[]> cells, boolean latched) {
        int k = 0;
        for (Maker.Var port : made.ports) {
            int first = twin.symbol(symbolOf(twin, port.name()), 4);
            for (int n = 0; n < port.elements(); n++) {
                String which = port.name() + "[" + n + "] in " + where;
                long value = cells.get(port.name())[n];
                Check.due("cell of " + which, value, twin.cell(0, first + n));
                if (!latched) {
                    Check.due("coded cell of " + which, CODING * value, twin.cell(1, first + n));
                }
                if (port.kind().equals("out")) {
                    Check.due("output of " + which, latched ? port.value() : value, twin.output(k));
                    if (!latched) {
                        Check.due("past of " + which, value, twin.past(0, k));
                    }
                    k++;
                }
            }
        }
        Check.due("count(7)", k, twin.count(7));
    }

    /** One CYCLE, STEP by STEP: A in its RANGE, the second copy 58659 times the first, neither beyond the BOUND. */
    private static void keepsToItsRangesAndBound(int seed, Maker made, VitalTwin twin) {
        give(new Random(seed), made, twin, made.begin());
        int bound = twin.count(5);
        long[] trace = new long[3 * bound];
        int[] did = new int[2];
        int done = 0;
        int copy = 0;
        int next = twin.count(4);
        boolean more = true;
        while (more && done < 2 * bound) {
            Check.due("steps(1) of program " + seed, 1, twin.steps(1));
            done++;
            String where = "STEP " + done + " of program " + seed;
            if (did[copy] < bound) {
                look(where, twin, copy, next, trace, 3 * did[copy]);
            }
            did[copy]++;
            more = twin.count(10) != 0;
            Check.due("count(9) behind " + where, more ? done : 0, twin.count(9));
            copy = more ? twin.count(10) - 1 : copy;
            next = (int) twin.register(copy, 2);
        }
        Check.due("an end within both BOUNDS of program " + seed, false, more);
        if (twin.count(11) == 0) {
            Check.due("STEPS of the second copy of program " + seed, did[0], did[1]);
            for (int k = 0; k < twin.count(3); k++) {
                Check.due("cell " + k + " of program " + seed, CODING * twin.cell(0, k), twin.cell(1, k));
            }
        } else {
            Check.due("why program " + seed + " has LATCHED", 1, twin.count(11));
        }
    }

    /** What INSTRUCTION i left: of the first copy it is kept, of the second it is compared with that. */
    private static void look(String where, VitalTwin twin, int copy, int i, long[] trace, int at) {
        long a = twin.register(copy, 0);
        long b = twin.register(copy, 1);
        int op = twin.code(i, 0);
        boolean setsA = op == 0 || op == 1 || op == 4 || op >= 6 && op <= 23;
        if (copy == 1) {
            Check.due("the INSTRUCTION at " + where, trace[at], i);
            Check.due("A behind " + where, CODING * trace[at + 1], a);
            Check.due("B behind " + where, CODING * trace[at + 2], b);
            return;
        }
        trace[at] = i;
        trace[at + 1] = a;
        trace[at + 2] = b;
        if (setsA) {
            Check.due("A is not below its RANGE behind " + where, true, a >= twin.range(i, 0));
            Check.due("A is not above its RANGE behind " + where, true, a <= twin.range(i, 1));
        } else {
            Check.due("low end of what sets no A", 1, twin.range(i, 0));
            Check.due("high end of what sets no A", 0, twin.range(i, 1));
        }
    }

    /** Some places and STEPS of each program: what probe counts is what 64 CYCLES with one FLIP each come to. */
    private static void probesTellWhatFlipsDo(int seed, VitalTwin twin) {
        Random random = new Random(seed);
        twin.power();
        boolean latches = twin.cycle() == 0;
        int[] outs = outs(twin);
        for (int n = 0; n < 3; n++) {
            int copy = random.nextInt(2);
            int where = random.nextInt(twin.count(3) + 2) - 2;
            int step = random.nextInt(2 * twin.count(5) + 1);
            int[] came = new int[5];
            for (int bit = 0; bit < 64 && !latches; bit++) {
                came[outcome(twin, outs, copy, where, bit, step)]++;
            }
            twin.power();
            String state = Check.state(twin);
            for (int what = 0; what <= 4; what++) {
                String call = "probe(" + copy + ", " + where + ", " + step + ", " + what + ") of program " + seed;
                Check.due(call, latches ? VitalTwin.NONE : came[what], twin.probe(copy, where, step, what));
            }
            Check.due("all behind the probes of program " + seed, state, Check.state(twin));
        }
    }

    private static int outcome(VitalTwin twin, int[] expected, int copy, int where, int bit, int step) {
        twin.power();
        Check.due("flip", true, twin.flip(copy, where, bit, step));
        if (twin.cycle() == 0) {
            return twin.count(11);
        }
        return Arrays.equals(expected, outs(twin)) ? 0 : 4;
    }

    private static int[] outs(VitalTwin twin) {
        int[] row = new int[twin.count(7)];
        for (int k = 0; k < row.length; k++) {
            row[k] = twin.output(k);
        }
        return row;
    }
}
