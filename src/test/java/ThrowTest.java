import java.util.ArrayList;
import java.util.List;

/** What steps, cycle, output, past, range, cell and register throw, and that nothing has changed then. */
public final class ThrowTest {
    private static final int[] FAR = {Integer.MIN_VALUE, Integer.MAX_VALUE};

    public static void main(String[] args) {
        withoutAProgram();
        VitalTwin fresh = Check.made("in x: 0..9; out y[2]: 0..18 = 4; cycle { y[0] = x + x; }");
        withAProgram("a new program", fresh);
        VitalTwin within = Check.made("in x: 0..9; out y[2]: 0..18 = 4; cycle { y[0] = x + x; }");
        within.cycle();
        within.steps(12);
        withAProgram("within a CYCLE", within);
        VitalTwin planned = Check.made("in x: 0..9; out y[2]: 0..18 = 4; cycle { y[0] = x + x; }");
        planned.flip(1, 0, 3, 2);
        withAProgram("with a FLIP planned", planned);
        VitalTwin latched = Check.made("in x: 0..9; out y[2]: 0..18 = 4; cycle { y[0] = x + x; assert x > 0; }");
        latched.input(0, 1);
        latched.cycle();
        latched.input(0, 0);
        latched.cycle();
        withAProgram("LATCHED", latched);
        Check.due("it has LATCHED", 1, latched.count(11));
        Check.end();
    }

    private static void dueIndex(String what, Check.Call call) {
        Check.dueThrow(what, IndexOutOfBoundsException.class, call);
    }

    private static void withoutAProgram() {
        VitalTwin twin = new VitalTwin(16);
        int[] wrong = {0, -1, 200001, Integer.MIN_VALUE, Integer.MAX_VALUE};
        for (int n : wrong) {
            Check.dueThrow("steps(" + n + ") without a program", IllegalArgumentException.class, () -> twin.steps(n));
        }
        Check.dueThrow("steps(1)", IllegalStateException.class, () -> twin.steps(1));
        Check.dueThrow("steps(200000)", IllegalStateException.class, () -> twin.steps(200000));
        Check.dueThrow("cycle()", IllegalStateException.class, twin::cycle);
        dueIndex("output(0)", () -> twin.output(0));
        dueIndex("past(0, 0)", () -> twin.past(0, 0));
        dueIndex("range(0, 0)", () -> twin.range(0, 0));
        dueIndex("cell(0, 0)", () -> twin.cell(0, 0));
        long[] registers = {0, 0, -1, 0};
        for (int copy = 0; copy <= 1; copy++) {
            for (int what = 0; what < 4; what++) {
                Check.due("register(" + copy + ", " + what + ") without a program", registers[what], twin.register(copy, what));
            }
        }
        wrongRegisters(twin);
        Check.due("a fault", 1, twin.compile());
        Check.dueThrow("cycle() behind a fault", IllegalStateException.class, twin::cycle);
    }

    private static void wrongRegisters(VitalTwin twin) {
        for (int wrong : new int[] {-1, 2, FAR[0], FAR[1]}) {
            dueIndex("register(" + wrong + ", 0)", () -> twin.register(wrong, 0));
            int what = wrong == 2 ? 4 : wrong;
            dueIndex("register(0, " + what + ")", () -> twin.register(0, what));
        }
    }

    private static void withAProgram(String when, VitalTwin twin) {
        String before = Check.state(twin) + pastOf(twin);
        int[] wrongSteps = {0, -1, 200001, FAR[0], FAR[1]};
        for (int n : wrongSteps) {
            Check.dueThrow("steps(" + n + ") " + when, IllegalArgumentException.class, () -> twin.steps(n));
        }
        for (int k : new int[] {-1, 2, FAR[0], FAR[1]}) {
            dueIndex("output(" + k + ") " + when, () -> twin.output(k));
            dueIndex("past(0, " + k + ") " + when, () -> twin.past(0, k));
        }
        int kept = twin.count(8);
        for (int ahead : new int[] {-1, kept, 16, FAR[0], FAR[1]}) {
            dueIndex("past(" + ahead + ", 0) " + when, () -> twin.past(ahead, 0));
        }
        int size = twin.count(2);
        for (int i : new int[] {-1, size, FAR[0], FAR[1]}) {
            dueIndex("range(" + i + ", 0) " + when, () -> twin.range(i, 0));
        }
        for (int what : new int[] {-1, 2, FAR[0], FAR[1]}) {
            dueIndex("range(0, " + what + ") " + when, () -> twin.range(0, what));
            dueIndex("cell(" + what + ", 0) " + when, () -> twin.cell(what, 0));
        }
        int cells = twin.count(3);
        for (int k : new int[] {-1, -2, cells, 4096, FAR[0], FAR[1]}) {
            dueIndex("cell(0, " + k + ") " + when, () -> twin.cell(0, k));
        }
        wrongRegisters(twin);
        Check.due("what is behind all that, " + when, before, Check.state(twin) + pastOf(twin));
    }

    private static String pastOf(VitalTwin twin) {
        List<Integer> found = new ArrayList<>();
        for (int ahead = 0; ahead < twin.count(8); ahead++) {
            found.add(twin.past(ahead, 0));
        }
        return found.toString();
    }
}
