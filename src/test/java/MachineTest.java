/** Promises 9 to 13, 15, 16, 18 and 19: what goes in, CYCLES and STEPS, what is put out, cells, registers, power, count. */
public final class MachineTest {
    private static final long CODING = 58659;
    private static final String PORTS = "in x: 0..9; in lo: 3..5; in neg: -9..-2; in b: bool; in a[2]: -1..1; type Col = red, green;"
            + "in c: Col; out y: 0..18 = 4; state n: 0..100 = 7; out z[2]: -9..9 = -1;"
            + "cycle { n = min(n + 1, 100); y = x + x; z[1] = neg; }";
    // cells: x 0, lo 1, neg 2, b 3, a 4 5, c 6, y 7, n 8, z 9 10, then TEMPS

    public static void main(String[] args) {
        beginning();
        valuesAtFirst();
        inputs();
        stepByStep();
        stepsOfTwoCycles();
        callsAndPlacesToComeBackTo();
        results();
        elements();
        pastCycles();
        latchedByAnAssert();
        power();
        compileBeginsAnew();
        counts();
        Check.end();
    }

    private static void dueCell(VitalTwin twin, int k, long value) {
        Check.due("cell(0, " + k + ")", value, twin.cell(0, k));
        Check.due("cell(1, " + k + ")", CODING * value, twin.cell(1, k));
    }

    private static void beginning() {
        VitalTwin twin = Check.made(PORTS);
        long[] cells = {0, 0, 0, 0, 0, 0, 0, 4, 7, -1, -1};
        for (int k = 0; k < twin.count(3); k++) {
            dueCell(twin, k, k < cells.length ? cells[k] : 0);
        }
        Check.due("y ahead of all", 4, twin.output(0));
        Check.due("z[0] ahead of all", -1, twin.output(1));
        Check.due("z[1] ahead of all", -1, twin.output(2));
        for (int copy = 0; copy <= 1; copy++) {
            long[] registers = {0, 0, -1, 0};
            for (int what = 0; what < 4; what++) {
                Check.due("register(" + copy + ", " + what + ")", registers[what], twin.register(copy, what));
            }
        }
        int[] counts = {0, 0, 0, 0, 0, 0};
        for (int what = 8; what <= 13; what++) {
            Check.due("count(" + what + ") ahead of all", counts[what - 8], twin.count(what));
        }
    }

    private static void valuesAtFirst() {
        VitalTwin twin = Check.made(PORTS);
        Check.due("cycle()", 1, twin.cycle());
        long[] cells = {0, 3, -9, 0, 0, 0, 0, 0, 8, -1, -9};
        for (int k = 0; k < cells.length; k++) {
            dueCell(twin, k, cells[k]);
        }
        Check.due("y", 0, twin.output(0));
        Check.due("z[0]", -1, twin.output(1));
        Check.due("z[1]", -9, twin.output(2));
        VitalTwin edges = Check.made("in a: -9..0; in b: 0..9; in c[2]: 1..9; in d: -9..-1; cycle {}");
        edges.cycle();
        long[] values = {0, 0, 1, 1, -9};
        for (int k = 0; k < values.length; k++) {
            dueCell(edges, k, values[k]);
        }
    }

    private static void inputs() {
        VitalTwin twin = Check.made(PORTS);
        int[][] good = {{0, 0}, {0, 9}, {1, 3}, {1, 5}, {2, -9}, {2, -2}, {3, 0}, {3, 1}, {4, -1}, {4, 1}, {5, 0}, {6, 0}, {6, 1}};
        for (int[] one : good) {
            Check.due("input(" + one[0] + ", " + one[1] + ")", true, twin.input(one[0], one[1]));
        }
        int[][] wrong = {{0, -1}, {0, 10}, {1, 2}, {1, 6}, {2, -10}, {2, -1}, {3, -1}, {3, 2}, {4, 2}, {5, -2}, {6, -1}, {6, 2},
            {7, 0}, {-1, 0}, {Integer.MIN_VALUE, 0}, {Integer.MAX_VALUE, 0}, {0, Integer.MAX_VALUE}, {0, Integer.MIN_VALUE}};
        for (int[] one : wrong) {
            Check.due("input(" + one[0] + ", " + one[1] + ")", false, twin.input(one[0], one[1]));
        }
        Check.due("it comes with the next CYCLE alone", 0, twin.cell(0, 0));
        twin.cycle();
        long[] cells = {9, 5, -2, 1, 1, 0, 1, 18};
        for (int k = 0; k < cells.length; k++) {
            dueCell(twin, k, cells[k]);
        }
        twin.cycle();
        Check.due("what is given stays", 18, twin.output(0));
        twin.steps(1);
        Check.due("not while a CYCLE runs", false, twin.input(0, 1));
        twin.cycle();
        Check.due("nothing was given", 18, twin.output(0));
        Check.due("behind it", true, twin.input(0, 1));
        twin.cycle();
        Check.due("it was given", 2, twin.output(0));
    }

    /** CONST 3, STORE 0, HALT: three STEPS of each copy. */
    private static void stepByStep() {
        VitalTwin twin = Check.made("out y: 0..9 = 8; cycle { y = 3; }");
        Check.due("BOUND", 3, twin.count(5));
        Check.due("steps(1)", 1, twin.steps(1));
        due(twin, 1, 1, 3, 1, 0, -1);
        Check.due("cell 0", 8, twin.cell(0, 0));
        Check.due("steps(1)", 1, twin.steps(1));
        due(twin, 2, 1, 3, 2, 0, -1);
        Check.due("cell 0", 3, twin.cell(0, 0));
        Check.due("cell 0 of the second", 8 * CODING, twin.cell(1, 0));
        Check.due("steps(1) to HALT", 1, twin.steps(1));
        due(twin, 3, 2, 3, -1, 0, 0);
        Check.due("nothing is EMITTED", 8, twin.output(0));
        Check.due("steps(2)", 2, twin.steps(2));
        due(twin, 5, 2, 3, -1, 3 * CODING, 2);
        Check.due("cell 0 of the second", 3 * CODING, twin.cell(1, 0));
        Check.due("nothing is EMITTED", 0, twin.count(8));
        Check.due("no more than to the end", 1, twin.steps(200000));
        due(twin, 0, 0, 3, -1, 3 * CODING, -1);
        Check.due("it is EMITTED", 1, twin.count(8));
        Check.due("output(0)", 3, twin.output(0));
    }

    private static void due(VitalTwin twin, int done, int running, long a, long next, long secondA, long secondNext) {
        Check.due("count(9)", done, twin.count(9));
        Check.due("count(10)", running, twin.count(10));
        Check.due("register(0, 0)", a, twin.register(0, 0));
        Check.due("register(0, 2)", next, twin.register(0, 2));
        Check.due("register(1, 0)", secondA, twin.register(1, 0));
        Check.due("register(1, 2)", secondNext, twin.register(1, 2));
        for (int copy = 0; copy <= 1; copy++) {
            Check.due("register(" + copy + ", 1)", 0, twin.register(copy, 1));
            Check.due("register(" + copy + ", 3)", 0, twin.register(copy, 3));
        }
    }

    private static void stepsOfTwoCycles() {
        // CONST 3, STORE 1, LOAD 1 .. : A and B are 0 at the beginning of each copy
        VitalTwin twin = Check.made("state y: 0..9 = 8; cycle { y = y % 3 + 1; }");
        int bound = twin.count(5);
        Check.due("a whole CYCLE", 2 * bound, twin.steps(2 * bound));
        Check.due("it is through", 0, twin.count(10));
        long a = twin.register(1, 0);
        long b = twin.register(1, 1);
        Check.due("A of the second", 3 * CODING, a);
        Check.due("B of the second", CODING, b);
        Check.due("one STEP of the next one", 1, twin.steps(1));
        Check.due("A of the first", 3, twin.register(0, 0));
        Check.due("B of the first", 0, twin.register(0, 1));
        Check.due("A of the second stays", a, twin.register(1, 0));
        Check.due("B of the second stays", b, twin.register(1, 1));
        Check.due("to the first's HALT", bound - 1, twin.steps(bound - 1));
        Check.due("the second begins: A", 0, twin.register(1, 0));
        Check.due("the second begins: B", 0, twin.register(1, 1));
        Check.due("the rest by cycle()", 1, twin.cycle());
        Check.due("two are EMITTED", 2, twin.count(8));
        Check.due("a whole one by cycle()", 1, twin.cycle());
        Check.due("three are EMITTED", 3, twin.count(8));
        VitalTwin most = Check.made("cycle { for i = 1 to 9090 {} assert true; }");
        Check.due("as many STEPS as there can be", 200000, most.steps(200000));
        Check.due("it is EMITTED", 1, most.count(8));
    }

    private static void callsAndPlacesToComeBackTo() {
        StringBuilder funs = new StringBuilder("out y: 0..9 = 0; fun f1() { y = 1; }");
        for (int n = 2; n <= 16; n++) {
            funs.append("fun f").append(n).append("() { f").append(n - 1).append("(); }");
        }
        VitalTwin twin = Check.made(funs + "cycle { f16(); y = 2; }");
        for (int depth = 1; depth <= 16; depth++) {
            twin.steps(1);
            Check.due("places to come back to", depth, twin.register(0, 3));
            Check.due("the fun's first INSTRUCTION", twin.symbol(17 - depth, 4), twin.register(0, 2));
        }
        Check.due("none of the second", 0, twin.register(1, 3));
        twin.steps(3);
        Check.due("places to come back to", 15, twin.register(0, 3));
        twin.steps(15);
        Check.due("back in cycle", 0, twin.register(0, 3));
        Check.due("behind its CALL", twin.count(4) + 1, twin.register(0, 2));
        Check.due("to the end", 1, twin.cycle());
        Check.due("output(0)", 2, twin.output(0));
        Check.due("none while it doesn't run", 0, twin.register(0, 3));
    }

    /** Every OP, in both copies, against what Java makes of the same numbers. */
    private static void results() {
        VitalTwin twin = Check.made("in x: -50..50; in y: -50..50; in d: 1..9; type Col = red, green, blue;"
                + "fun twice(v: -50..50): -100..100 { return v + v; }"
                + "out o[12]: -9999..9999 = 0; out f[8]: bool = false; out k: Col = red;"
                + "cycle { o[0] = x + y; o[1] = x - y; o[2] = x * y; o[3] = x / d; o[4] = x % d; o[5] = min(x, y); o[6] = max(x, y);"
                + "o[7] = -x; o[8] = abs(x); o[9] = clamp(x, -7, 7); o[10] = x > y ? twice(x) : twice(y); o[11] = x / -d;"
                + "f[0] = x < y; f[1] = x <= y; f[2] = x > y; f[3] = x >= y; f[4] = x == y; f[5] = x != y;"
                + "f[6] = x > 0 && y > 0; f[7] = !(x > 0 || y > 0);"
                + "case (x) { -50..-1: { k = red; } 0: { k = green; } else { k = blue; } } }");
        int[] xs = {-50, -8, -7, -1, 0, 1, 7, 8, 50};
        int[] ds = {1, 2, 3, 9};
        for (int x : xs) {
            for (int y : xs) {
                int d = ds[Math.abs(x + y) % ds.length];
                twin = twin.count(8) < 30 ? twin : fresh(twin);
                twin.input(0, x);
                twin.input(1, y);
                twin.input(2, d);
                Check.due("cycle() of " + x + ", " + y, 1, twin.cycle());
                int[] want = {x + y, x - y, x * y, x / d, x % d, Math.min(x, y), Math.max(x, y), -x, Math.abs(x),
                    Math.max(-7, Math.min(7, x)), 2 * Math.max(x, y), x / -d, x < y ? 1 : 0, x <= y ? 1 : 0, x > y ? 1 : 0,
                    x >= y ? 1 : 0, x == y ? 1 : 0, x != y ? 1 : 0, x > 0 && y > 0 ? 1 : 0, x > 0 || y > 0 ? 0 : 1,
                    Integer.signum(x) + 1};
                for (int k = 0; k < want.length; k++) {
                    Check.due("output(" + k + ") of " + x + ", " + y + ", " + d, want[k], twin.output(k));
                }
                for (int k = 0; k < twin.count(3); k++) {
                    Check.due("what both hold in " + k, CODING * twin.cell(0, k), twin.cell(1, k));
                }
            }
        }
    }

    /** Every element by its own INDEX, read and written. */
    private static void elements() {
        VitalTwin twin = Check.made("in a[4]: 0..99; in k: 0..3; out y: 0..99 = 0; out z[4]: 0..99 = 7; cycle {"
                + "var v[4]: 0..99 = 7; y = a[k]; v[k] = a[3 - k]; z[k] = v[k]; }");
        for (int n = 0; n < 4; n++) {
            twin.input(n, 10 + n);
        }
        for (int k = 0; k < 4; k++) {
            twin.input(4, k);
            Check.due("cycle() of " + k, 1, twin.cycle());
            Check.due("what was read at " + k, 10 + k, twin.output(0));
            for (int n = 0; n < 4; n++) {
                Check.due("z[" + n + "]", n <= k ? 13 - n : 7, twin.output(1 + n));
            }
        }
    }

    /** An object is good for 512 calls; power() is asked so that the program need not be fed again. */
    private static VitalTwin fresh(VitalTwin twin) {
        twin.power();
        return twin;
    }

    private static void pastCycles() {
        VitalTwin twin = Check.made("out y: 0..100 = 50; out z: 0..1 = 1; state n: 0..100 = 0; cycle { y = n; n = min(n + 1, 100);"
                + " z = n % 2; assert n < 40; }");
        Check.dueThrow("past(0, 0) ahead of all", IndexOutOfBoundsException.class, () -> twin.past(0, 0));
        for (int n = 0; n < 39; n++) {
            Check.due("cycle()", 1, twin.cycle());
            Check.due("output(0)", n, twin.output(0));
            for (int ahead = 0; ahead < 16 && ahead <= n; ahead++) {
                Check.due("past(" + ahead + ", 0)", n - ahead, twin.past(ahead, 0));
                Check.due("past(" + ahead + ", 1)", (n - ahead + 1) % 2, twin.past(ahead, 1));
            }
            int beyond = Math.min(16, n + 1);
            Check.dueThrow("past beyond", IndexOutOfBoundsException.class, () -> twin.past(beyond, 0));
        }
        Check.due("it LATCHES", 0, twin.cycle());
        Check.due("what is put out is SAFE", 50, twin.output(0));
        Check.due("and the other", 1, twin.output(1));
        Check.due("the past stays", 38, twin.past(0, 0));
        Check.due("the oldest of it", 23, twin.past(15, 0));
        Check.dueThrow("past(16, 0)", IndexOutOfBoundsException.class, () -> twin.past(16, 0));
        twin.power();
        Check.dueThrow("past(0, 0) behind power()", IndexOutOfBoundsException.class, () -> twin.past(0, 0));
        twin.cycle();
        Check.due("past(0, 0) of the first one", 0, twin.past(0, 0));
        Check.dueThrow("past(1, 0)", IndexOutOfBoundsException.class, () -> twin.past(1, 0));
    }

    private static void latchedByAnAssert() {
        VitalTwin twin = Check.made("in b: bool; out y: 0..9 = 5; cycle { y = 1; assert b; y = 2; }");
        twin.input(0, 1);
        Check.due("a good CYCLE", 1, twin.cycle());
        Check.due("output(0)", 2, twin.output(0));
        twin.input(0, 0);
        // CONST, STORE, LOAD, CHECK: the STEP that TRAPS is done
        Check.due("STEPS to the TRAP", 4, twin.steps(100));
        Check.due("why", 1, twin.count(11));
        Check.due("between CYCLES", 0, twin.count(10));
        Check.due("no STEPS", 0, twin.count(9));
        Check.due("register(0, 2)", -1, twin.register(0, 2));
        Check.due("EMITTED stays", 1, twin.count(8));
        Check.due("output(0) is SAFE", 5, twin.output(0));
        Check.due("past(0, 0)", 2, twin.past(0, 0));
        Check.due("a value may be given", true, twin.input(0, 1));
        String before = Check.state(twin);
        Check.due("no more STEPS", 0, twin.steps(1));
        Check.due("no more CYCLES", 0, twin.cycle());
        Check.due("nothing has changed", before, Check.state(twin));
        Check.due("power()", true, twin.power());
        Check.due("it goes on", 1, twin.cycle());
        Check.due("with what was given", 2, twin.output(0));
        VitalTwin within = Check.made("in b: bool; fun f() { assert b; } fun g() { f(); } cycle { g(); }");
        Check.due("STEPS to a TRAP within calls", 4, within.steps(100));
        Check.due("no places to come back to", 0, within.register(0, 3));
        within.power();
        within.input(0, 1);
        within.steps(1);
        Check.due("the row begins empty", 1, within.register(0, 3));
        Check.due("it is EMITTED", 1, within.cycle());
    }

    private static void power() {
        VitalTwin twin = Check.made(PORTS);
        String first = Check.state(twin);
        twin.input(0, 6);
        twin.cycle();
        twin.flip(1, 3, 5, 900);
        twin.steps(3);
        Check.due("power() within a CYCLE", true, twin.power());
        Check.due("all is as at first", first, Check.state(twin));
        twin.cycle();
        Check.due("but what is given stays", 12, twin.output(0));
        twin.flip(0, 8, 1, 0);
        Check.due("power() with a FLIP planned", true, twin.power());
        Check.due("it is forgotten", first, Check.state(twin));
        Check.due("and not done", 1, twin.cycle());
        Check.due("no FLIPS done", 0, twin.count(13));
    }

    private static void compileBeginsAnew() {
        String text = "in x: 0..9; out y: 0..18 = 4; state n: 0..100 = 7; cycle { n = min(n + 1, 100); y = x + x; }";
        VitalTwin twin = Check.made(text);
        String first = Check.state(twin);
        twin.input(0, 6);
        twin.flip(0, -1, 60, 0);
        twin.cycle();
        twin.steps(3);
        twin.flip(0, 0, 0, 7);
        Check.due("compile() within a CYCLE", 0, Check.compile(twin, text));
        Check.due("all is as at first", first, Check.state(twin));
        Check.dueThrow("no past", IndexOutOfBoundsException.class, () -> twin.past(0, 0));
        twin.cycle();
        Check.due("what was given is gone", 0, twin.output(0));
        Check.due("a larger one", 0, Check.compile(twin, "out q[9]: 0..9 = 3; cycle { var v: 0..9 = 2; q[8] = v; }"));
        twin.cycle();
        Check.due("its last out", 2, twin.output(8));
        Check.due("its past", 3, twin.past(0, 7));
        Check.due("a smaller one", 0, Check.compile(twin, "state s: 0..9 = 1; cycle { var v: 0..9 = s; }"));
        Check.due("nothing of the one ahead of it", 0, twin.cell(0, 1));
        Check.dueThrow("no out", IndexOutOfBoundsException.class, () -> twin.output(0));
        Check.due("cycle()", 1, twin.cycle());
        Check.due("EMITTED without any out", 1, twin.count(8));
    }

    private static void counts() {
        VitalTwin twin = Check.made(PORTS);
        Check.feed(twin, "abc");
        int[] want = {3, 12, twin.code(twin.count(2) - 1, 0) == 29 ? twin.count(2) : -1, 13, 0, twin.count(2), 7, 3, 0, 0, 0, 0, 0, 0};
        for (int what = 0; what < want.length; what++) {
            Check.due("count(" + what + ")", want[what], twin.count(what));
        }
        int[] wrong = {-1, 14, Integer.MIN_VALUE, Integer.MAX_VALUE};
        VitalTwin none = new VitalTwin(16);
        for (int what : wrong) {
            Check.due("count(" + what + ")", -1, twin.count(what));
            Check.due("count(" + what + ") without a program", -1, none.count(what));
        }
    }
}
