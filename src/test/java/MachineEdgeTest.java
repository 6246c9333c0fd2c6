/**
 * The edges that Terms 5 (THE MACHINE) and Promises 9 to 13, 15, 16, 18 and 19 name; those of flip and probe are in
 * ProbeEdgeTest.
 */
public final class MachineEdgeTest {
    private static final long CODING = 58659;
    private static final int[] FAR = {Integer.MIN_VALUE, -1, Integer.MAX_VALUE};
    /** LOAD 0; STORE 1; LOAD 0; CHECK .. : it LATCHES by 1 if x is 0. */
    private static final String CHECKED = "in x:0..9;out y:0..9=5;cycle{y=x;assert x>0;}";

    public static void main(String[] args) {
        allElseIsNothing();
        lowestValuesAtFirst();
        whatIsGivenComesToBoth();
        variablesStay();
        registersAtTheBeginning();
        theRowIsEmptyAtItsBeginning();
        theGateAtTheEndsOfARange();
        theGateWithoutOuts();
        asManyStepsAsTheBound();
        aTrapAtTheBound();
        latchedForGood();
        inputsAtTheEnds();
        inputsOfNoCell();
        inputsWithinACycle();
        numbersOfSteps();
        stepsToTheEnd();
        stepsInTheirOrder();
        stepsWhenLatched();
        cyclesToTheirEnd();
        outputs();
        sixteenLatest();
        pastOfNone();
        cellsOfTheProgram();
        registersOfNone();
        powerComesBack();
        countsOfNone();
        countsBetweenCycles();
        throwsChangeNothing();
        Check.end();
    }

    private static void dueCells(VitalTwin twin, String when, long... want) {
        for (int k = 0; k < want.length; k++) {
            Check.due("cell(0, " + k + ") " + when, want[k], twin.cell(0, k));
            Check.due("cell(1, " + k + ") " + when, CODING * want[k], twin.cell(1, k));
        }
        Check.due("CELLS " + when, want.length, twin.count(3));
    }

    /** "In both segments state and out have their values at first, all else is 0". */
    private static void allElseIsNothing() {
        VitalTwin twin = Check.made("in i:3..5;out o:-9..9=-9;state s[2]:0..2000000000=2000000000;fun f(p:4..5){var v:6..7=6;}"
                + "cycle{var w[2]:7..8=7;for n=8 to 9{f(4);}}");
        dueCells(twin, "at first", 0, -9, 2000000000, 2000000000, 0, 0, 0, 0, 0, 0);
        Check.due("cycle()", 1, twin.cycle());
        dueCells(twin, "behind a CYCLE", 3, -9, 2000000000, 2000000000, 4, 6, 7, 7, 10, 4);
        twin.power();
        dueCells(twin, "behind power()", 0, -9, 2000000000, 2000000000, 0, 0, 0, 0, 0, 0);
    }

    /** "what is given for in (0, false or, where 0 is none of its RANGE, its lowest value at first)". */
    private static void lowestValuesAtFirst() {
        String[] ranges = {"0..9", "-9..9", "-9..0", "0..0", "1..9", "1..1", "-9..-1", "-1..-1", "-2000000000..-1", "2000000000..2000000000",
            "bool", "e"};
        long[] due = {0, 0, 0, 0, 1, 1, -9, -1, -2000000000, 2000000000, 0, 0};
        for (int n = 0; n < ranges.length; n++) {
            VitalTwin twin = Check.made("type e=m0,m1;in i:" + ranges[n] + ";in a[2]:" + ranges[n] + ";cycle{}");
            dueCells(twin, "at first", 0, 0, 0);
            twin.steps(1);
            dueCells(twin, "when a CYCLE has begun, " + ranges[n], due[n], due[n], due[n]);
        }
    }

    /** "comes to both at the beginning of a CYCLE (times 58659 to the second)". */
    private static void whatIsGivenComesToBoth() {
        VitalTwin twin = Check.made("in i:-2000000000..2000000000;cycle{}");
        for (int v : new int[] {2000000000, -2000000000, 1, -1, 0}) {
            long before = twin.cell(0, 0);
            Check.due("input", true, twin.input(0, v));
            Check.due("not ahead of the CYCLE", before, twin.cell(0, 0));
            Check.due("one STEP", 1, twin.steps(1));
            dueCells(twin, "with " + v, v);
            Check.due("the other STEP", 1, twin.cycle());
        }
    }

    /** What no code writes stays from CYCLE to CYCLE: variables have no value of their own at the beginning of one. */
    private static void variablesStay() {
        VitalTwin twin = Check.made("in b:bool;out o:0..9=0;cycle{if(b){var v:0..9=7;o=v;}}");
        twin.input(0, 1);
        twin.cycle();
        twin.input(0, 0);
        twin.cycle();
        Check.due("the variable", 7, twin.cell(0, 2));
        Check.due("that of the second", 7 * CODING, twin.cell(1, 2));
        Check.due("the out", 7, twin.output(0));
    }

    private static void dueRegisters(VitalTwin twin, String when, long... want) {
        for (int n = 0; n < 8; n++) {
            Check.due("register(" + n / 4 + ", " + n % 4 + ") " + when, want[n], twin.register(n / 4, n % 4));
        }
    }

    /**
     * "Then the first copy does cycle's code, A and B 0, to its HALT, then the second one"; "A and B stay as they were
     * when it ends".
     */
    private static void registersAtTheBeginning() {
        // fun: RET 0; cycle from 1 on: CALL 0; LOAD 0; STORE 1; CONST 2; MOVE; LOAD 1; LT; CHECK; HALT
        VitalTwin twin = Check.made("in x:0..1;fun f(){}cycle{f();assert x<2;}");
        dueRegisters(twin, "at first", 0, 0, -1, 0, 0, 0, -1, 0);
        twin.steps(1);
        dueRegisters(twin, "behind CALL", 0, 0, 0, 1, 0, 0, -1, 0);
        twin.steps(1);
        dueRegisters(twin, "behind RET", 0, 0, 2, 0, 0, 0, -1, 0);
        twin.steps(7);
        dueRegisters(twin, "ahead of HALT", 1, 2, 9, 0, 0, 0, -1, 0);
        twin.steps(1);
        dueRegisters(twin, "when the second begins", 1, 2, -1, 0, 0, 0, 1, 0);
        twin.steps(1);
        dueRegisters(twin, "behind its CALL", 1, 2, -1, 0, 0, 0, 0, 1);
        twin.steps(9);
        dueRegisters(twin, "between CYCLES", 1, 2, -1, 0, CODING, 2 * CODING, -1, 0);
        twin.steps(1);
        dueRegisters(twin, "when the first begins again", 0, 0, 0, 1, CODING, 2 * CODING, -1, 0);
        twin.power();
        dueRegisters(twin, "behind power()", 0, 0, -1, 0, 0, 0, -1, 0);
    }

    /** "A copy's row of places to come back to is empty at its beginning": also when the last CYCLE LATCHED within calls. */
    private static void theRowIsEmptyAtItsBeginning() {
        VitalTwin twin = Check.made("in b:bool;fun f(){assert b;}fun g(){f();}fun h(){g();}cycle{h();}");
        twin.steps(4);
        Check.due("three places", 3, twin.register(0, 3));
        twin.cycle();
        Check.due("LATCHED", 1, twin.count(11));
        Check.due("none while it doesn't run", 0, twin.register(0, 3));
        twin.power();
        twin.input(0, 1);
        twin.steps(1);
        Check.due("one place", 1, twin.register(0, 3));
        Check.due("none of the second", 0, twin.register(1, 3));
        Check.due("to the end", 1, twin.cycle());
        Check.due("none between CYCLES", 0, twin.register(0, 3));
    }

    /** Turns a cell's number into another one in both copies; eight FLIPS are enough for 1 and 3, -1 and -3, 2 and 6. */
    private static void turn(VitalTwin twin, int where, long from, long to, int step) {
        for (int copy = 0; copy <= 1; copy++) {
            long bits = copy == 0 ? from ^ to : CODING * from ^ CODING * to;
            for (int bit = 0; bit < 64; bit++) {
                if ((bits >>> bit & 1) == 1) {
                    Check.due("flip", true, twin.flip(copy, where, bit, step));
                }
            }
        }
    }

    /**
     * "THE GATE: are all CELLS of out within their RANGE (BOOL 0 .. 1) in the first segment, and 58659 times that in the
     * second, they are EMITTED. Else it LATCHES (3)".
     */
    private static void theGateAtTheEndsOfARange() {
        dueAtTheGate("1..3", "1", 1, 3, true);
        dueAtTheGate("1..2", "1", 1, 3, false);
        dueAtTheGate("2..6", "6", 6, 2, true);
        dueAtTheGate("3..6", "6", 6, 2, false);
        dueAtTheGate("-3..-1", "-1", -1, -3, true);
        dueAtTheGate("-2..-1", "-1", -1, -3, false);
        dueAtTheGate("-3..-1", "-3", -3, -1, true);
        dueAtTheGate("-3..-2", "-3", -3, -1, false);
        dueAtTheGate("bool", "true", 1, 3, false);
        dueAtTheGate("four", "f1", 1, 3, true);
        dueAtTheGate("three", "t1", 1, 3, false);
        VitalTwin alike = Check.made("out o:0..9=5;cycle{}");
        for (int bit = 0; bit < 64; bit++) {
            for (int copy = 0; copy <= 1; copy++) {
                alike.power();
                alike.flip(copy, 0, bit, 1);
                Check.due("bit " + bit + " of copy " + copy + " alone", 0, alike.cycle());
                Check.due("why", 3, alike.count(11));
            }
        }
    }

    private static void dueAtTheGate(String type, String value, int from, int to, boolean within) {
        for (int n = 0; n < 2; n++) {
            VitalTwin twin = Check.made("type three=t0,t1,t2;type four=f0,f1,f2,f3;out first:0..9=0;out o[2]:" + type + "=" + value + ";cycle{}");
            // HALT of both: the FLIPS come behind the first's code
            turn(twin, 1 + n, from, to, 1);
            Check.due("cycle() with " + to + " of " + type, within ? 1 : 0, twin.cycle());
            Check.due("why", within ? 0 : 3, twin.count(11));
            Check.due("what is put out", within ? to : from, twin.output(1 + n));
            Check.due("what the first holds", to, twin.cell(0, 1 + n));
            Check.due("what the second holds", CODING * to, twin.cell(1, 1 + n));
        }
    }

    private static void theGateWithoutOuts() {
        VitalTwin twin = Check.made("state s:0..1=0;in i:0..1;cycle{}");
        twin.flip(0, 0, 63, 0);
        twin.flip(1, 1, 5, 1);
        Check.due("no CELLS of out: it is EMITTED", 1, twin.cycle());
        Check.due("EMITTED", 1, twin.count(8));
    }

    /** "or has done as many STEPS as cycle's BOUND without HALT (2)"; a HALT, or a TRAP, as the last of so many is in time. */
    private static void asManyStepsAsTheBound() {
        VitalTwin least = Check.made("cycle{}");
        Check.due("the least BOUND", 1, least.count(5));
        Check.due("it is enough", 2, least.steps(200000));
        Check.due("EMITTED", 1, least.count(8));
        // CONST 1; STORE; CONST 2; MOVE; LOAD; LE; JZ; LOAD b; CHECK; CONST 1; MOVE; LOAD; ADD; STORE; JUMP; HALT
        VitalTwin twin = Check.made("in b:bool;cycle{for n=1 to 2{assert b;}}");
        int bound = 2 + 2 * 13 + 5 + 1;
        Check.due("BOUND", bound, twin.count(5));
        twin.input(0, 1);
        Check.due("the longest way", 2 * bound, twin.steps(200000));
        Check.due("EMITTED", 1, twin.count(8));
        for (int copy = 0; copy <= 1; copy++) {
            twin.power();
            // n becomes far below, so that the rounds go on
            twin.flip(copy, 1, 63, copy * bound + 4);
            Check.due("one STEP less than that", copy * bound + bound - 1, twin.steps(copy * bound + bound - 1));
            Check.due("it goes on", 0, twin.count(11));
            Check.due("the last STEP", 1, twin.steps(200000));
            Check.due("why", 2, twin.count(11));
            Check.due("between CYCLES", 0, twin.count(10));
            Check.due("none is EMITTED", 0, twin.count(8));
        }
        // CONST 1; STORE; .. : n is 0 instead of 1 ahead of its first test, so that there is a round more
        VitalTwin round = Check.made("in b:bool;cycle{for n=1 to 1{}assert b;}");
        int most = round.count(5);
        round.input(0, 1);
        Check.due("the longest way", 2 * most, round.steps(200000));
        round.power();
        round.flip(0, 1, 0, 2);
        Check.due("a round more is too much", most, round.steps(200000));
        Check.due("why", 2, round.count(11));
        // LOAD; JZ; LOAD; CHECK; HALT
        VitalTwin trap = Check.made("in b:bool;in c:bool;cycle{if(b){assert c;}}");
        Check.due("BOUND", 5, trap.count(5));
        trap.input(0, 1);
        Check.due("STEPS to the TRAP", 4, trap.steps(200000));
        Check.due("why", 1, trap.count(11));
    }

    /** A TRAP at the STEP that is as many as the BOUND is a TRAP. */
    private static void aTrapAtTheBound() {
        // a round more, as n is 0 instead of 1 ahead of its first test: its CHECK is as many STEPS from the beginning as the BOUND
        VitalTwin last = Check.made("in b:bool;cycle{for n=1 to 1{assert !b;}if(b){}}");
        int most = last.count(5);
        Check.due("BOUND", 2 + 14 + 5 + 2 + 1, most);
        // STEPS: 2, 14 of the first round, 5 of the test, LOAD NOT CHECK: 2 + 14 + 5 + 3 = 24, the BOUND
        last.flip(0, 1, 0, 2);
        last.flip(0, 0, 0, 20);
        Check.due("STEPS to the TRAP", most, last.steps(200000));
        Check.due("it is the TRAP that is told", 1, last.count(11));
    }

    /**
     * "Once it has LATCHED it is so (till the machine begins anew by power() or compile()): no more CYCLES, and what is
     * put out is SAFE".
     */
    private static void latchedForGood() {
        VitalTwin twin = Check.made(CHECKED);
        twin.input(0, 3);
        twin.cycle();
        Check.due("what is put out", 3, twin.output(0));
        twin.input(0, 0);
        Check.due("it LATCHES", 0, twin.cycle());
        twin.input(0, 3);
        String before = Check.state(twin);
        for (int n = 0; n < 3; n++) {
            Check.due("cycle()", 0, twin.cycle());
            Check.due("steps(9)", 0, twin.steps(9));
            Check.due("flip", false, twin.flip(0, 0, 0, 0));
            Check.due("probe", -1, twin.probe(0, 0, 0, 0));
            Check.due("what is put out is SAFE", 5, twin.output(0));
            Check.due("the one that was EMITTED last", 3, twin.past(0, 0));
        }
        Check.due("nothing has changed", before, Check.state(twin));
        twin.power();
        Check.due("behind power()", 1, twin.cycle());
        twin.input(0, 0);
        twin.cycle();
        Check.due("LATCHED", 1, twin.count(11));
        Check.due("compile()", 0, Check.compile(twin, CHECKED));
        twin.input(0, 4);
        Check.due("behind compile()", 1, twin.cycle());
        Check.due("what is put out", 4, twin.output(0));
    }

    /** "False if .. the value is not in its RANGE (BOOL 0, 1)". */
    private static void inputsAtTheEnds() {
        String[] types = {"0..9", "-3..-1", "5..5", "bool", "e", "u", "-2000000000..2000000000"};
        int[][] ends = {{0, 9}, {-3, -1}, {5, 5}, {0, 1}, {0, 2}, {0, 0}, {-2000000000, 2000000000}};
        for (int n = 0; n < types.length; n++) {
            VitalTwin twin = Check.made("type e=m0,m1,m2;type u=only;in a[2]:" + types[n] + ";cycle{}");
            int low = ends[n][0];
            int high = ends[n][1];
            for (int k = 0; k < 2; k++) {
                Check.due("below " + types[n], false, twin.input(k, low - 1));
                Check.due("above " + types[n], false, twin.input(k, high + 1));
                Check.due("far below " + types[n], false, twin.input(k, Integer.MIN_VALUE));
                Check.due("far above " + types[n], false, twin.input(k, Integer.MAX_VALUE));
                Check.due("the low end of " + types[n], true, twin.input(k, low));
                Check.due("the high end of " + types[n], true, twin.input(k, high));
                Check.due("what is refused changes nothing", false, twin.input(k, high + 1));
            }
            twin.cycle();
            dueCells(twin, "of " + types[n], high, high);
        }
    }

    /** "False if there is no such cell": 0 is the first one of in, whatever stands between. */
    private static void inputsOfNoCell() {
        VitalTwin twin = Check.made("out o:0..9=0;in a:0..9;state s:0..9=0;in c[2]:0..9;cycle{}");
        Check.due("cells of in", 3, twin.count(6));
        Check.due("the first one", true, twin.input(0, 1));
        Check.due("the second one", true, twin.input(1, 2));
        Check.due("the last one", true, twin.input(2, 3));
        Check.due("none behind it", false, twin.input(3, 4));
        for (int far : FAR) {
            Check.due("input(" + far + ", 0)", false, twin.input(far, 0));
        }
        twin.cycle();
        dueCells(twin, "behind that", 0, 1, 0, 2, 3);
        Check.due("no in", false, Check.made("out o:0..9=0;cycle{}").input(0, 0));
        Check.due("no program", false, new VitalTwin(16).input(0, 0));
    }

    /** "False if .. a CYCLE has begun that is not through". */
    private static void inputsWithinACycle() {
        VitalTwin twin = Check.made("in x:0..9;out y:0..9=5;cycle{y=x;}");
        Check.due("ahead of all", true, twin.input(0, 1));
        for (int done = 1; done <= 5; done++) {
            twin.steps(1);
            Check.due("behind STEP " + done, false, twin.input(0, 2));
        }
        twin.steps(1);
        Check.due("it is through", true, twin.input(0, 3));
        Check.due("what was put out", 1, twin.output(0));
        twin.cycle();
        Check.due("what is put out now", 3, twin.output(0));
        twin.flip(0, 1, 7, 5);
        twin.cycle();
        Check.due("it has LATCHED", 3, twin.count(11));
        Check.due("no CYCLE has begun", true, twin.input(0, 4));
        twin.power();
        twin.cycle();
        Check.due("what was given stays", 4, twin.output(0));
    }

    /** "IllegalArgumentException: n is not 1 .. 200000". */
    private static void numbersOfSteps() {
        VitalTwin twin = Check.made("cycle{for n=1 to 9090{}assert true;}");
        String before = Check.state(twin);
        for (int n : new int[] {0, -1, 200001, Integer.MIN_VALUE, Integer.MAX_VALUE}) {
            Check.dueThrow("steps(" + n + ")", IllegalArgumentException.class, () -> twin.steps(n));
        }
        Check.due("no CYCLE has begun", before, Check.state(twin));
        Check.due("the least", 1, twin.steps(1));
        Check.due("count(9)", 1, twin.count(9));
        Check.due("all but one", 199998, twin.steps(199998));
        Check.due("count(9)", 199999, twin.count(9));
        Check.due("the last one", 1, twin.steps(200000));
        Check.due("EMITTED", 1, twin.count(8));
        Check.due("the most", 200000, twin.steps(200000));
        Check.due("EMITTED", 2, twin.count(8));
    }

    /**
     * "Up to n STEPS, of the CYCLE that has begun, or else of one that begins, at most to its end (with the GATE, if it is
     * come to): how many".
     */
    private static void stepsToTheEnd() {
        for (int n = 1; n <= 8; n++) {
            VitalTwin twin = Check.made("in x:0..9;out y:0..9=5;cycle{y=x;}");
            int done = 0;
            for (int calls = 0; done < 6; calls++) {
                int due = Math.min(n, 6 - done);
                Check.due("steps(" + n + ") behind " + done, due, twin.steps(n));
                done += due;
                Check.due("EMITTED at the end alone", done == 6 ? 1 : 0, twin.count(8));
                Check.due("what is put out", done == 6 ? 0 : 5, twin.output(0));
                Check.due("count(9)", done % 6, twin.count(9));
                Check.due("count(10)", done == 6 ? 0 : done < 3 ? 1 : 2, twin.count(10));
                Check.due("it has an end", true, calls < 6);
            }
            Check.due("of the next CYCLE", 1, twin.steps(1));
            Check.due("count(9)", 1, twin.count(9));
        }
    }

    /** "(asked in this order, both ahead of whether it has LATCHED)". */
    private static void stepsInTheirOrder() {
        VitalTwin none = new VitalTwin(16);
        Check.dueThrow("steps(0) without a program", IllegalArgumentException.class, () -> none.steps(0));
        Check.dueThrow("steps(200001) without a program", IllegalArgumentException.class, () -> none.steps(200001));
        Check.dueThrow("steps(1) without a program", IllegalStateException.class, () -> none.steps(1));
        Check.dueThrow("steps(200000) without a program", IllegalStateException.class, () -> none.steps(200000));
        VitalTwin latched = Check.made("cycle{assert false;}");
        latched.cycle();
        Check.dueThrow("steps(0) when it has LATCHED", IllegalArgumentException.class, () -> latched.steps(0));
        Check.dueThrow("steps(200001) when it has LATCHED", IllegalArgumentException.class, () -> latched.steps(200001));
        Check.due("steps(1) when it has LATCHED", 0, latched.steps(1));
    }

    /** "0 if it has LATCHED". */
    private static void stepsWhenLatched() {
        VitalTwin twin = Check.made(CHECKED);
        int steps = twin.steps(200000);
        Check.due("STEPS to the TRAP", twin.count(5) - 1, steps);
        Check.due("no more", 0, twin.steps(1));
        Check.due("no more", 0, twin.steps(200000));
        Check.due("no CYCLE has begun", 0, twin.count(10));
        twin.power();
        Check.due("the same again", steps, twin.steps(200000));
    }

    /**
     * "The CYCLE that has begun, or else a whole one, to its end: 1 if it is EMITTED, 0 if it LATCHES, or has.
     * IllegalStateException: no program".
     */
    private static void cyclesToTheirEnd() {
        VitalTwin none = new VitalTwin(16);
        Check.dueThrow("cycle() without a program", IllegalStateException.class, none::cycle);
        Check.due("a fault is no program", true, Check.compile(none, "cycle") > 0);
        Check.dueThrow("cycle() behind a fault", IllegalStateException.class, none::cycle);
        VitalTwin twin = Check.made("in x:0..9;out y:0..9=5;cycle{y=x;}");
        for (int done = 0; done < 6; done++) {
            if (done > 0) {
                twin.steps(done);
            }
            Check.due("cycle() behind " + done + " STEPS", 1, twin.cycle());
            Check.due("it is one CYCLE", done + 1, twin.count(8));
        }
        VitalTwin checked = Check.made(CHECKED);
        checked.steps(3);
        Check.due("it LATCHES", 0, checked.cycle());
        Check.due("it has", 0, checked.cycle());
        VitalTwin gate = Check.made("out o:0..9=5;cycle{}");
        gate.steps(1);
        gate.flip(0, 0, 0, 1);
        Check.due("the GATE LATCHES", 0, gate.cycle());
    }

    /** "EMITTED last; the SAFE value ahead of that, and when it has LATCHED. IndexOutOfBoundsException: there is none such". */
    private static void outputs() {
        VitalTwin twin = Check.made("in x:0..9;out y:0..9=5;state s:0..9=0;out z[2]:-9..9=-1;cycle{y=x;z[1]=-x;assert x<9;}");
        int[] safe = {5, -1, -1};
        int[] emitted = {4, -1, -4};
        dueOutputs(twin, "ahead of all", safe);
        twin.input(0, 4);
        twin.cycle();
        dueOutputs(twin, "EMITTED", emitted);
        twin.input(0, 7);
        twin.steps(12);
        Check.due("the cell itself has another one", 7, twin.cell(0, 1));
        dueOutputs(twin, "within the next CYCLE", emitted);
        twin.cycle();
        dueOutputs(twin, "EMITTED then", 7, -1, -7);
        twin.input(0, 9);
        twin.cycle();
        dueOutputs(twin, "LATCHED", safe);
        twin.power();
        dueOutputs(twin, "behind power()", safe);
        for (int k : new int[] {3, -1, Integer.MIN_VALUE, Integer.MAX_VALUE}) {
            Check.dueThrow("output(" + k + ")", IndexOutOfBoundsException.class, () -> twin.output(k));
        }
        VitalTwin none = new VitalTwin(16);
        Check.dueThrow("output(0) without a program", IndexOutOfBoundsException.class, () -> none.output(0));
        VitalTwin noOut = Check.made("in x:0..9;state s:0..9=0;cycle{}");
        Check.dueThrow("output(0) without an out", IndexOutOfBoundsException.class, () -> noOut.output(0));
        VitalTwin full = Check.made("out o[4096]:0..9=8;cycle{}");
        full.cycle();
        Check.due("the last of all", 8, full.output(4095));
        Check.dueThrow("output(4096)", IndexOutOfBoundsException.class, () -> full.output(4096));
    }

    private static void dueOutputs(VitalTwin twin, String when, int... want) {
        for (int k = 0; k < want.length; k++) {
            Check.due("output(" + k + ") " + when, want[k], twin.output(k));
        }
    }

    /** "(0: the latest), of the 16 latest since the machine began". */
    private static void sixteenLatest() {
        for (int cycles = 0; cycles <= 34; cycles++) {
            VitalTwin twin = Check.made("state n:0..99=0;out o[2]:0..99=98;cycle{n=min(n+1,99);o[1]=n;}");
            for (int n = 0; n < cycles; n++) {
                twin.cycle();
            }
            for (int ahead = 0; ahead < Math.min(16, cycles); ahead++) {
                Check.due("past(" + ahead + ", 1) behind " + cycles, cycles - ahead, twin.past(ahead, 1));
                Check.due("past(" + ahead + ", 0) behind " + cycles, 98, twin.past(ahead, 0));
            }
            int most = Math.min(16, cycles);
            Check.dueThrow("past(" + most + ", 0) behind " + cycles, IndexOutOfBoundsException.class, () -> twin.past(most, 0));
            Check.dueThrow("past(16, 0) behind " + cycles, IndexOutOfBoundsException.class, () -> twin.past(16, 0));
            // a CYCLE that has begun is none of them yet
            twin.steps(30);
            if (cycles > 0) {
                Check.due("the latest within the next CYCLE", cycles, twin.past(0, 1));
            }
        }
    }

    /** "IndexOutOfBoundsException: there is none such". */
    private static void pastOfNone() {
        VitalTwin twin = Check.made("in b:bool;out o[2]:0..9=3;cycle{o[0]=4;assert b;}");
        Check.dueThrow("past(0, 0) ahead of all", IndexOutOfBoundsException.class, () -> twin.past(0, 0));
        twin.cycle();
        Check.dueThrow("past(0, 0) when the first one LATCHED", IndexOutOfBoundsException.class, () -> twin.past(0, 0));
        twin.power();
        twin.input(0, 1);
        twin.cycle();
        Check.due("past(0, 0)", 4, twin.past(0, 0));
        for (int far : FAR) {
            Check.dueThrow("past(0, " + far + ")", IndexOutOfBoundsException.class, () -> twin.past(0, far));
            Check.dueThrow("past(" + far + ", 0)", IndexOutOfBoundsException.class, () -> twin.past(far, 0));
        }
        Check.dueThrow("past(0, 2)", IndexOutOfBoundsException.class, () -> twin.past(0, 2));
        Check.dueThrow("past(1, 0)", IndexOutOfBoundsException.class, () -> twin.past(1, 0));
        twin.power();
        Check.dueThrow("past(0, 0) behind power()", IndexOutOfBoundsException.class, () -> twin.past(0, 0));
        twin.cycle();
        Check.due("compile()", 0, Check.compile(twin, "out o:0..9=3;cycle{}"));
        Check.dueThrow("past(0, 0) behind compile()", IndexOutOfBoundsException.class, () -> twin.past(0, 0));
        VitalTwin none = new VitalTwin(16);
        Check.dueThrow("past(0, 0) without a program", IndexOutOfBoundsException.class, () -> none.past(0, 0));
    }

    /** "IndexOutOfBoundsException: there is no such copy or cell (of those that the program has)". */
    private static void cellsOfTheProgram() {
        VitalTwin twin = Check.made(64, "in a[5]:0..9;cycle{}");
        for (int copy = 0; copy <= 1; copy++) {
            int asked = copy;
            Check.due("the first cell", 0, twin.cell(copy, 0));
            Check.due("the last cell", 0, twin.cell(copy, 4));
            for (int k : new int[] {5, 63, 64, -1, -2, Integer.MIN_VALUE, Integer.MAX_VALUE}) {
                Check.dueThrow("cell(" + copy + ", " + k + ")", IndexOutOfBoundsException.class, () -> twin.cell(asked, k));
            }
        }
        for (int copy : new int[] {-1, 2, Integer.MIN_VALUE, Integer.MAX_VALUE}) {
            Check.dueThrow("cell(" + copy + ", 0)", IndexOutOfBoundsException.class, () -> twin.cell(copy, 0));
        }
        Check.due("a program of fewer cells", 0, Check.compile(twin, "in a:0..9;cycle{}"));
        Check.dueThrow("cell(0, 1)", IndexOutOfBoundsException.class, () -> twin.cell(0, 1));
        VitalTwin none = new VitalTwin(16);
        Check.dueThrow("cell(0, 0) without a program", IndexOutOfBoundsException.class, () -> none.cell(0, 0));
    }

    /** "(there without a program, too: 0, 0, NONE, 0)"; "IndexOutOfBoundsException: there is no such copy or what". */
    private static void registersOfNone() {
        VitalTwin none = new VitalTwin(16);
        dueRegisters(none, "without a program", 0, 0, -1, 0, 0, 0, -1, 0);
        VitalTwin twin = Check.made("cycle{}");
        for (VitalTwin one : new VitalTwin[] {none, twin}) {
            for (int copy : new int[] {-1, 2, Integer.MIN_VALUE, Integer.MAX_VALUE}) {
                for (int what = 0; what <= 3; what++) {
                    int asked = what;
                    Check.dueThrow("register(" + copy + ", " + what + ")", IndexOutOfBoundsException.class, () -> one.register(copy, asked));
                }
            }
            for (int what : new int[] {-1, 4, Integer.MIN_VALUE, Integer.MAX_VALUE}) {
                Check.dueThrow("register(0, " + what + ")", IndexOutOfBoundsException.class, () -> one.register(0, what));
                Check.dueThrow("register(1, " + what + ")", IndexOutOfBoundsException.class, () -> one.register(1, what));
            }
        }
    }

    /**
     * "the machine begins anew with the program, also when it had LATCHED: true; false without one. (What was given for in
     * stays.)".
     */
    private static void powerComesBack() {
        VitalTwin none = new VitalTwin(16);
        Check.due("power() without a program", false, none.power());
        Check.compile(none, "cycle");
        Check.due("power() behind a fault", false, none.power());
        VitalTwin twin = Check.made(CHECKED);
        String first = Check.state(twin);
        Check.due("power() ahead of all", true, twin.power());
        Check.due("all is as at first", first, Check.state(twin));
        twin.cycle();
        Check.due("it has LATCHED", 1, twin.count(11));
        Check.due("power()", true, twin.power());
        Check.due("all is as at first", first, Check.state(twin));
        twin.input(0, 6);
        twin.cycle();
        twin.steps(7);
        twin.flip(0, 0, 0, 99);
        twin.feed(0, 0x6162);
        Check.due("power() within a CYCLE", true, twin.power());
        Check.due("the tape stays", 2, twin.count(0));
        twin.compile();
        Check.due("all is as at first", first, Check.state(twin));
        twin.cycle();
        Check.due("what was given stays", 6, twin.output(0));
    }

    /** "NONE for another what, and 1 to 13 without a program". */
    private static void countsOfNone() {
        VitalTwin none = new VitalTwin(16);
        VitalTwin twin = Check.made("cycle{}");
        for (int what : new int[] {-1, 14, Integer.MIN_VALUE, Integer.MAX_VALUE}) {
            Check.due("count(" + what + ") without a program", -1, none.count(what));
            Check.due("count(" + what + ")", -1, twin.count(what));
        }
        for (int what = 1; what <= 13; what++) {
            Check.due("count(" + what + ") without a program", -1, none.count(what));
        }
        none.feed(0, 32);
        Check.due("the length of the tape without a program", 1, none.count(0));
        int[] due = {0, 0, 1, 0, 0, 1, 0, 0, 0, 0, 0, 0, 0, 0};
        for (int what = 0; what <= 13; what++) {
            Check.due("count(" + what + ") of the shortest program", due[what], twin.count(what));
        }
    }

    /**
     * "9: STEPS that the CYCLE that has begun has done (0 between CYCLES), 10: 0 between CYCLES, 1 the first copy runs, 2
     * the second".
     */
    private static void countsBetweenCycles() {
        VitalTwin twin = Check.made("cycle{assert true;}");
        int[] running = {0, 1, 1, 2, 2, 2, 0, 1};
        for (int n = 0; n < running.length; n++) {
            Check.due("count(9) behind " + n, n % 6, twin.count(9));
            Check.due("count(10) behind " + n, running[n], twin.count(10));
            Check.due("count(8) behind " + n, n / 6, twin.count(8));
            twin.steps(1);
        }
        VitalTwin latched = Check.made("cycle{assert false;}");
        latched.steps(1);
        Check.due("count(11) ahead of the TRAP", 0, latched.count(11));
        latched.steps(1);
        int[] due = {0, 0, 0, 1, 0, 0};
        for (int what = 8; what <= 13; what++) {
            Check.due("count(" + what + ") when it has LATCHED", due[what - 8], latched.count(what));
        }
    }

    /** "What throws changes nothing." */
    private static void throwsChangeNothing() {
        VitalTwin twin = Check.made(CHECKED);
        twin.input(0, 3);
        twin.cycle();
        twin.steps(3);
        twin.flip(1, 0, 2, 900);
        twin.feed(0, 0x61);
        String before = Check.state(twin);
        Check.dueThrow("steps(0)", IllegalArgumentException.class, () -> twin.steps(0));
        Check.dueThrow("output(1)", IndexOutOfBoundsException.class, () -> twin.output(1));
        Check.dueThrow("past(1, 0)", IndexOutOfBoundsException.class, () -> twin.past(1, 0));
        Check.dueThrow("cell(2, 0)", IndexOutOfBoundsException.class, () -> twin.cell(2, 0));
        Check.dueThrow("register(0, 4)", IndexOutOfBoundsException.class, () -> twin.register(0, 4));
        Check.dueThrow("range(-1, 0)", IndexOutOfBoundsException.class, () -> twin.range(-1, 0));
        Check.due("nothing has changed", before, Check.state(twin));
        VitalTwin none = new VitalTwin(16);
        none.feed(0, 0x61);
        Check.dueThrow("cycle()", IllegalStateException.class, none::cycle);
        Check.dueThrow("steps(1)", IllegalStateException.class, () -> none.steps(1));
        Check.due("the tape stays", 1, none.count(0));
        Check.due("no program", -1, none.count(1));
    }
}
