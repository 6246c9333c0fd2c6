/** Promises 14 and 17: flip and probe; how THE GATE and the copies LATCH, and what they TRAP at. */
public final class FlipTest {
    private static final long CODING = 58659;
    /** LOAD 0; STORE 1; HALT. */
    private static final String COPY = "in x: 0..9; out y: 0..9 = 5; cycle { y = x; }";

    public static void main(String[] args) {
        oneFlip();
        registersAreFlipped();
        wrongFlips();
        eightFlips();
        flipsWithinACycle();
        flipsForNoStep();
        gate();
        traps();
        overruns();
        sixtyFourBits();
        probeAgainstFlips();
        probeTellsNothing();
        Check.end();
    }

    private static VitalTwin copying(int x) {
        VitalTwin twin = Check.made(COPY);
        twin.input(0, x);
        return twin;
    }

    private static void oneFlip() {
        VitalTwin twin = copying(1);
        Check.due("flip of what is overwritten", true, twin.flip(0, 1, 3, 0));
        Check.due("planned", 1, twin.count(12));
        Check.due("none done", 0, twin.count(13));
        Check.due("nothing has changed yet", 5, twin.cell(0, 1));
        Check.due("steps(1)", 1, twin.steps(1));
        Check.due("the cell is flipped", 5 ^ 8, twin.cell(0, 1));
        Check.due("done ones are counted till the end", 1, twin.count(12));
        Check.due("one done", 1, twin.count(13));
        Check.due("it is EMITTED", 1, twin.cycle());
        Check.due("none planned", 0, twin.count(12));
        Check.due("one done", 1, twin.count(13));
        // what comes for in comes ahead of the FLIP of STEP 0
        twin.flip(0, 0, 1, 0);
        Check.due("both disagree", 0, twin.cycle());
        Check.due("why", 3, twin.count(11));
        Check.due("the first holds what was flipped", 3, twin.cell(0, 1));
        Check.due("the second does not", CODING, twin.cell(1, 1));
        Check.due("SAFE", 5, twin.output(0));
        Check.due("two done", 2, twin.count(13));
        twin.power();
        Check.due("none done since the machine began", 0, twin.count(13));
    }

    private static void registersAreFlipped() {
        VitalTwin twin = copying(1);
        Check.due("flip of A", true, twin.flip(0, -1, 2, 1));
        twin.steps(2);
        Check.due("A ahead of STORE", 5, twin.register(0, 0));
        Check.due("what was stored", 5, twin.cell(0, 1));
        Check.due("it LATCHES", 0, twin.cycle());
        Check.due("why", 3, twin.count(11));
        VitalTwin second = copying(1);
        second.flip(1, -2, 63, 0);
        second.flip(1, -1, 0, 0);
        second.steps(1);
        Check.due("B of the second", Long.MIN_VALUE, second.register(1, 1));
        Check.due("A of the second", 1, second.register(1, 0));
        second.steps(2);
        Check.due("B is 0 when it begins", 0, second.register(1, 1));
        Check.due("A is 0 when it begins", 0, second.register(1, 0));
        second.flip(1, -1, 4, 3);
        second.steps(1);
        Check.due("the FLIP ahead of its first STEP comes behind that", CODING, second.register(1, 0));
        second.flip(0, -1, 4, 4);
        second.steps(1);
        Check.due("A of the first, which does not run", 1 ^ 16, second.register(0, 0));
        Check.due("it is EMITTED", 1, second.cycle());
        VitalTwin last = copying(1);
        // STEP 3 is the second's LOAD, which overwrites; STEP 4 its STORE
        last.flip(1, -1, 0, 4);
        Check.due("it LATCHES", 0, last.cycle());
        Check.due("why", 3, last.count(11));
        Check.due("what was stored", CODING ^ 1, last.cell(1, 1));
    }

    private static void wrongFlips() {
        VitalTwin twin = copying(1);
        int[][] wrong = {{-1, 0, 0, 0}, {2, 0, 0, 0}, {0, -3, 0, 0}, {0, 2, 0, 0}, {0, 4095, 0, 0}, {0, 0, -1, 0}, {0, 0, 64, 0},
            {0, 0, 0, -1}, {0, Integer.MIN_VALUE, 0, 0}, {0, Integer.MAX_VALUE, 0, 0}, {Integer.MIN_VALUE, 0, 0, 0},
            {Integer.MAX_VALUE, 0, 0, 0}, {0, 0, Integer.MIN_VALUE, 0}, {0, 0, Integer.MAX_VALUE, 0}, {0, 0, 0, Integer.MIN_VALUE}};
        for (int[] one : wrong) {
            Check.due("flip(" + one[0] + ", " + one[1] + ", " + one[2] + ", " + one[3] + ")", false,
                    twin.flip(one[0], one[1], one[2], one[3]));
        }
        Check.due("none planned", 0, twin.count(12));
        int[][] good = {{0, -2, 0, 0}, {1, 1, 63, Integer.MAX_VALUE}};
        for (int[] one : good) {
            Check.due("a good one", true, twin.flip(one[0], one[1], one[2], one[3]));
        }
        twin.power();
        twin.flip(0, 0, 0, 0);
        twin.cycle();
        Check.due("it has LATCHED", 3, twin.count(11));
        Check.due("no flip then", false, twin.flip(0, 0, 0, 0));
        VitalTwin none = new VitalTwin(16);
        Check.due("no flip without a program", false, none.flip(0, -1, 0, 0));
    }

    private static void eightFlips() {
        VitalTwin twin = copying(1);
        for (int n = 0; n < 8; n++) {
            Check.due("flip " + n, true, twin.flip(n % 2, -1, n, 0));
        }
        Check.due("a ninth", false, twin.flip(0, -1, 0, 5));
        Check.due("planned", 8, twin.count(12));
        twin.steps(1);
        Check.due("done", 8, twin.count(13));
        Check.due("a ninth of this CYCLE", false, twin.flip(0, -1, 0, 5));
        twin.cycle();
        Check.due("one of the next CYCLE", true, twin.flip(0, -2, 0, 5));
        Check.due("planned", 1, twin.count(12));
        VitalTwin twice = copying(1);
        twice.flip(0, 0, 2, 0);
        twice.flip(0, 0, 2, 0);
        Check.due("a bit that is flipped twice", 1, twice.cycle());
        Check.due("both are done", 2, twice.count(13));
    }

    private static void flipsWithinACycle() {
        VitalTwin twin = copying(1);
        twin.steps(2);
        Check.due("a STEP that was done", false, twin.flip(0, 1, 1, 1));
        Check.due("the next STEP", true, twin.flip(0, 1, 1, 2));
        Check.due("the cell ahead of it", 1, twin.cell(0, 1));
        twin.steps(1);
        Check.due("the cell behind it", 3, twin.cell(0, 1));
        Check.due("it LATCHES", 0, twin.cycle());
        VitalTwin both = copying(1);
        makeThreeOfOne(both, 1, 5);
        Check.due("the same number in both is EMITTED", 1, both.cycle());
        Check.due("though it is another one", 3, both.output(0));
    }

    /** Plans the eight FLIPS that make 3 of 1 in a cell of both copies. */
    private static void makeThreeOfOne(VitalTwin twin, int where, int step) {
        twin.flip(0, where, 1, step);
        for (int bit = 0; bit < 64; bit++) {
            if (((CODING ^ 3 * CODING) >>> bit & 1) == 1) {
                twin.flip(1, where, bit, step);
            }
        }
        Check.due("FLIPS", 8, twin.count(12));
    }

    private static void flipsForNoStep() {
        VitalTwin twin = copying(1);
        Check.due("a STEP that the CYCLE has not", true, twin.flip(0, 0, 0, 6));
        Check.due("planned", 1, twin.count(12));
        Check.due("it is EMITTED", 1, twin.cycle());
        Check.due("none planned", 0, twin.count(12));
        Check.due("none done", 0, twin.count(13));
        Check.due("the next one, too", 1, twin.cycle());
        twin.flip(0, 0, 0, 5);
        Check.due("its last STEP", 1, twin.cycle());
        Check.due("one done", 1, twin.count(13));
        Check.due("the cell was flipped", 0, twin.cell(0, 0));
        twin.cycle();
        Check.due("till a value comes again", 1, twin.cell(0, 0));
    }

    private static void gate() {
        // a value beyond its RANGE in both copies, by a state that was flipped in both
        VitalTwin twin = Check.made("state n: 0..2 = 1; out y: 0..2 = 1; cycle { y = n; }");
        Check.due("it is EMITTED", 1, twin.cycle());
        makeThreeOfOne(twin, 0, 0);
        Check.due("3 is beyond 0 .. 2", 0, twin.cycle());
        Check.due("why", 3, twin.count(11));
        Check.due("both agree about it", CODING * twin.cell(0, 1), twin.cell(1, 1));
        VitalTwin bool = Check.made("out f: bool = true; cycle {}");
        bool.flip(0, 0, 1, 0);
        Check.due("3 is no BOOL", 0, bool.cycle());
        Check.due("why", 3, bool.count(11));
        VitalTwin state = Check.made("state n: 0..9 = 0; out y: 0..9 = 1; cycle { y = n / 4; }");
        state.flip(0, 0, 0, 0);
        Check.due("a state may differ, if no out does", 1, state.cycle());
        Check.due("the first's", 1, state.cell(0, 0));
        Check.due("the second's", 0, state.cell(1, 0));
        VitalTwin order = Check.made("out z: 0..9 = 3; in x: 0..9; out y[2]: 0..9 = 1; cycle {}");
        order.flip(1, 3, 7, 0);
        Check.due("the last cell of out is looked at", 0, order.cycle());
    }

    /** A program, one FLIP, and how the CYCLE ends then. */
    private static VitalTwin dueLatch(String program, int copy, int where, int bit, int step, int why) {
        VitalTwin twin = Check.made(program);
        Check.due("it is EMITTED without a flip", 1, twin.cycle());
        Check.due("flip", true, twin.flip(copy, where, bit, step));
        Check.due("cycle() of " + program, why == 0 ? 1 : 0, twin.cycle());
        Check.due("why, of " + program, why, twin.count(11));
        return twin;
    }

    private static void traps() {
        // CONST 1; LOADX 0 2; STORE 2: ahead of STEP 1 the INDEX is in A
        String load = "in a[2]: 0..9; out y: 0..9 = 0; cycle { y = a[1]; }";
        dueLatch(load, 0, -1, 1, 1, 1);
        dueLatch(load, 0, -1, 63, 1, 1);
        dueLatch(load, 1, -1, 0, 5, 1);
        VitalTwin index = dueLatch(load, 0, -1, 0, 1, 0);
        Check.due("another element that is the same", 0, index.output(0));
        // CONST 1; STORE 3; CONST 7; STORE 4; LOAD 3; MOVE; LOAD 4; STOREX 0 3: ahead of STEP 7 the INDEX is in B
        String store = "out y[3]: 0..9 = 0; cycle { y[1] = 7; }";
        dueLatch(store, 0, -2, 1, 7, 1);
        dueLatch(store, 0, -2, 40, 7, 1);
        VitalTwin other = dueLatch(store, 0, -2, 0, 7, 3);
        Check.due("the element that was written", 7, other.cell(0, 0));
        dueLatch(store, 1, -2, 0, 9 + 7, 1);
        // LOAD 0; STORE 2; LOAD 0; MOVE; LOAD 2; MUL; STORE 1; HALT
        String mul = "in x: 3..9; out y: 0..99 = 0; cycle { y = x * x; }";
        // one that is a multiple is enough
        dueLatch(mul, 1, -1, 0, 8 + 5, 3);
        dueLatch(mul, 0, -1, 0, 5, 3);
        VitalTwin product = Check.made(mul);
        product.flip(1, -1, 0, 8 + 5);
        product.flip(1, -2, 0, 8 + 5);
        Check.due("STEPS to the TRAP of MUL", 8 + 6, product.steps(200000));
        Check.due("why", 1, product.count(11));
        Check.due("A is as it was ahead of the TRAP", 3 * CODING ^ 1, product.register(1, 0));
        String div = "in x: 4..9; out y: 0..99 = 0; cycle { y = 7 / x; }";
        VitalTwin byZero = dueLatch(div, 0, -2, 2, 5, 1);
        Check.due("A stays", 7, byZero.register(0, 0));
        String rem = "in x: 4..9; out y: 0..99 = 0; cycle { y = 7 % x; }";
        dueLatch(rem, 0, -2, 2, 5, 1);
        // LOAD 0; STORE 2; CONST 7; MOVE; LOAD 2; DIV in the second: 58659 * (A / B) stays a multiple
        VitalTwin part = dueLatch("in x: 70..99; out y: 0..99 = 0; cycle { y = x / 7; }", 1, -1, 0, 8 + 5, 0);
        Check.due("70 / 7", 10, part.output(0));
        dueLatch("in x: 1..9; out y: 0..99 = 0; cycle { y = 5; assert x > 0; }", 0, -1, 0, 7, 1);
        dueLatch("in b: bool; cycle { assert !b; }", 1, -1, 4, 4 + 2, 0);
    }

    private static void overruns() {
        // CONST 1; STORE 0; CONST 3; MOVE; LOAD 0; LE; JZ; ..: N becomes far below, so that the rounds go on
        VitalTwin twin = Check.made("cycle { for n = 1 to 3 {} }");
        int bound = twin.count(5);
        Check.due("BOUND", 2 + 33 + 5 + 1, bound);
        Check.due("it is EMITTED", 1, twin.cycle());
        twin.flip(0, 0, 63, 2);
        Check.due("STEPS till it LATCHES", bound, twin.steps(200000));
        Check.due("why", 2, twin.count(11));
        twin.power();
        twin.flip(1, 0, 63, bound + 2);
        Check.due("STEPS of both till the second LATCHES", 2 * bound, twin.steps(200000));
        Check.due("why", 2, twin.count(11));
        twin.power();
        twin.flip(0, 0, 1, 4);
        Check.due("fewer rounds are no harm", 1, twin.cycle());
        // a HALT that is the last of as many STEPS as the BOUND is in time
        Check.due("the longest way", 1, twin.cycle());
    }

    private static void sixtyFourBits() {
        VitalTwin twin = Check.made("in x: -9..9; state s: -9..9 = 0; out y: -9..9 = 0; cycle { s = -x; s = abs(x); }");
        // LOAD 0; NEG; STORE 1; LOAD 0; ABS; STORE 1; HALT
        twin.flip(0, -1, 63, 1);
        twin.flip(0, -1, 63, 4);
        twin.steps(2);
        Check.due("NEG goes round", Long.MIN_VALUE, twin.register(0, 0));
        twin.steps(3);
        Check.due("ABS goes round", Long.MIN_VALUE, twin.register(0, 0));
        twin.cycle();
        VitalTwin sum = Check.made("in x: -9..9; cycle { assert x + x < 99; }");
        // LOAD 0; STORE 1; LOAD 0; MOVE; LOAD 1; ADD; ..
        sum.flip(0, -1, 63, 5);
        sum.flip(0, -2, 63, 5);
        sum.steps(6);
        Check.due("ADD goes round", 0, sum.register(0, 0));
        VitalTwin mul = Check.made("in x: -9..9; cycle { assert x * x < 99; }");
        mul.flip(0, -1, 62, 5);
        mul.flip(0, -2, 2, 5);
        mul.steps(6);
        Check.due("MUL goes round", 0, mul.register(0, 0));
        VitalTwin div = Check.made("in x: -9..-1; cycle { assert x / x < 99; }");
        div.input(0, -1);
        div.flip(0, -1, 63, 5);
        div.steps(5);
        Check.due("A ahead of the FLIP", -1, div.register(0, 0));
        div.steps(1);
        Check.due("DIV by -1", -Long.MAX_VALUE, div.register(0, 0));
    }

    /** What probe tells is what 64 machines with one FLIP each do. */
    private static void probeAgainstFlips() {
        String program = "in x: 0..9; in a[2]: 0..3; out y: 0..99 = 5; out f: bool = false; state n: 0..9 = 1;"
                + "fun rest(v: 0..10): 0..8 { return v % 9; } fun next() { n = rest(n + 1); }"
                + "cycle { for i = 1 to 2 { y = x * a[i - 1] / (n + 1); } f = y > 3; assert x < 8 || f; next(); }";
        int[] given = {5, 2, 3};
        int steps = stepsOfACycle(program, given);
        int[] wheres = {-2, -1, 0, 2, 3, 5, 6};
        for (int copy = 0; copy <= 1; copy++) {
            for (int where : wheres) {
                VitalTwin asked = given(program, given);
                asked.cycle();
                String before = Check.state(asked);
                for (int step = 0; step < steps + 2; step += 5) {
                    int[] want = tried(program, given, copy, where, step);
                    for (int what = 0; what <= 4; what++) {
                        Check.due("probe(" + copy + ", " + where + ", " + step + ", " + what + ")", want[what],
                                asked.probe(copy, where, step, what));
                    }
                }
                Check.due("all is as it was", before, Check.state(asked));
            }
        }
        VitalTwin twin = given(program, given);
        twin.cycle();
        Check.due("a STEP that the CYCLE has not", 64, twin.probe(0, 0, steps, 0));
        for (int what = 1; what <= 4; what++) {
            Check.due("the same, what " + what, 0, twin.probe(0, 0, steps, what));
        }
        Check.due("the last one", 64, twin.probe(0, 0, Integer.MAX_VALUE, 0));
        Check.due("the CYCLE comes as if nothing had been tried", 1, twin.cycle());
        // all bits of an out at the last STEP of the second lead to 3, those of what no one reads to nothing
        VitalTwin copy = copying(1);
        Check.due("probe of y at the end", 64, copy.probe(0, 1, 5, 3));
        Check.due("probe of x at the end", 64, copy.probe(0, 0, 5, 0));
        // the other copy puts out what it does without a flip, so that one bit alone never brings another value through
        VitalTwin constant = Check.made("out y: 0..1 = 0; out z: 0..1 = 0; cycle { y = 1; }");
        Check.due("nothing is EMITTED otherwise", 0, constant.probe(0, 1, 0, 4));
    }

    private static int stepsOfACycle(String program, int[] given) {
        VitalTwin twin = given(program, given);
        twin.cycle();
        return twin.steps(200000);
    }

    private static VitalTwin given(String program, int[] given) {
        VitalTwin twin = Check.made(program);
        for (int k = 0; k < given.length; k++) {
            twin.input(k, given[k]);
        }
        return twin;
    }

    /** One object for all bits: power() makes the machine begin anew with what was given. */
    private static int[] tried(String program, int[] given, int copy, int where, int step) {
        int[] found = new int[5];
        VitalTwin twin = given(program, given);
        twin.cycle();
        twin.cycle();
        int first = twin.output(0);
        int second = twin.output(1);
        for (int bit = 0; bit < 64; bit++) {
            twin.power();
            twin.cycle();
            twin.flip(copy, where, bit, step);
            twin.cycle();
            int why = twin.count(11);
            boolean same = why == 0 && twin.output(0) == first && twin.output(1) == second;
            found[why != 0 ? why : same ? 0 : 4]++;
        }
        return found;
    }

    private static void probeTellsNothing() {
        VitalTwin none = new VitalTwin(16);
        Check.due("probe without a program", -1, none.probe(0, -1, 0, 0));
        VitalTwin twin = copying(1);
        Check.due("a good one", 64, twin.probe(1, -2, 0, 0));
        int[][] wrong = {{-1, 0, 0, 0}, {2, 0, 0, 0}, {0, -3, 0, 0}, {0, 2, 0, 0}, {0, 0, -1, 0}, {0, 0, 0, -1}, {0, 0, 0, 5},
            {Integer.MAX_VALUE, 0, 0, 0}, {0, Integer.MAX_VALUE, 0, 0}, {0, Integer.MIN_VALUE, 0, 0}, {0, 0, Integer.MIN_VALUE, 0},
            {0, 0, 0, Integer.MAX_VALUE}};
        for (int[] one : wrong) {
            Check.due("probe(" + one[0] + ", " + one[1] + ", " + one[2] + ", " + one[3] + ")", -1,
                    twin.probe(one[0], one[1], one[2], one[3]));
        }
        twin.flip(0, 0, 0, 99);
        Check.due("while FLIPS are planned", -1, twin.probe(0, 0, 0, 0));
        twin.steps(1);
        Check.due("while a CYCLE runs", -1, twin.probe(0, 0, 0, 0));
        twin.cycle();
        Check.due("behind it", 64, twin.probe(0, 1, 0, 0));
        twin.flip(0, 0, 0, 0);
        twin.cycle();
        Check.due("when it has LATCHED", -1, twin.probe(0, 1, 0, 0));
        VitalTwin would = Check.made("in b: bool; cycle { assert b; }");
        Check.due("when the CYCLE would LATCH without a flip", -1, would.probe(0, 0, 0, 0));
        Check.due("also for a STEP that it has not", -1, would.probe(0, 0, 99, 0));
        Check.due("it has not LATCHED by that", 0, would.count(11));
        would.input(0, 1);
        Check.due("with what is given for the next CYCLE", 1, would.probe(0, 0, 0, 1));
        Check.due("the others", 63, would.probe(0, 0, 0, 0));
    }
}
