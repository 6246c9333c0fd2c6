/** The edges that Terms 5 (A FLIP) and Promises 14 (probe) and 17 (flip) name. */
public final class ProbeEdgeTest {
    private static final long CODING = 58659;
    /** LOAD 0; STORE 1; HALT: six STEPS of both. */
    private static final String COPY = "in x:0..9;out y:0..9=5;cycle{y=x;}";

    public static void main(String[] args) {
        bitsFromTheFirstToTheLast();
        placesThatCanBeFlipped();
        flipsThatAreRefused();
        eightAreTheMost();
        stepsThatWereDone();
        stepsThatTheCycleHasNot();
        flipsWhenLatched();
        thoseThatArePlannedFirst();
        flipsOfTheCopyThatDoesNotRun();
        flipsOfIn();
        countsOfFlips();
        probesOfAllBits();
        probesThatLatch();
        probesAtTheEnds();
        probesOfAStepThatIsNot();
        probesThatTellNothing();
        probesWithinCalls();
        probesChangeNothing();
        Check.end();
    }

    private static VitalTwin copying(int x) {
        VitalTwin twin = Check.made(COPY);
        Check.due("input", true, twin.input(0, x));
        return twin;
    }

    /** "A FLIP turns one bit (0 .. 63) of a cell, of A or of B of one copy just ahead of a STEP". */
    private static void bitsFromTheFirstToTheLast() {
        for (int bit = 0; bit < 64; bit++) {
            VitalTwin twin = Check.made("state s:0..9=5;cycle{}");
            for (int copy = 0; copy <= 1; copy++) {
                for (int where = -2; where <= 0; where++) {
                    Check.due("flip of bit " + bit, true, twin.flip(copy, where, bit, copy));
                }
            }
            Check.due("nothing is turned yet", 5, twin.cell(0, 0));
            twin.steps(2);
            for (int copy = 0; copy <= 1; copy++) {
                long held = copy == 0 ? 5 : 5 * CODING;
                Check.due("the cell with bit " + bit, held ^ 1L << bit, twin.cell(copy, 0));
                Check.due("A with bit " + bit, 1L << bit, twin.register(copy, 0));
                Check.due("B with bit " + bit, 1L << bit, twin.register(copy, 1));
            }
            Check.due("no out, so it is EMITTED", 1, twin.count(8));
        }
    }

    /** "of a copy's cell (from 0 on), A (-1) or B (-2)": "no .. copy, cell (that the program has)". */
    private static void placesThatCanBeFlipped() {
        VitalTwin twin = Check.made(64, "in a[3]:0..9;cycle{}");
        for (int where : new int[] {-2, -1, 0, 2}) {
            Check.due("flip of " + where, true, twin.flip(0, where, 0, 0));
            Check.due("flip of " + where + " of the second", true, twin.flip(1, where, 0, 0));
        }
        twin.power();
        for (int where : new int[] {-3, 3, 4, 63, 64, Integer.MIN_VALUE, Integer.MAX_VALUE}) {
            Check.due("flip of " + where, false, twin.flip(0, where, 0, 0));
            Check.due("flip of " + where + " of the second", false, twin.flip(1, where, 0, 0));
        }
        Check.due("none is planned", 0, twin.count(12));
        VitalTwin none = Check.made("cycle{}");
        Check.due("no cell at all", false, none.flip(0, 0, 0, 0));
        Check.due("but A", true, none.flip(0, -1, 0, 0));
    }

    /** "False if there is no program, copy, cell (that the program has) or bit, the STEP was done already (or is below 0)". */
    private static void flipsThatAreRefused() {
        VitalTwin none = new VitalTwin(16);
        for (int where = -2; where <= 0; where++) {
            Check.due("flip without a program", false, none.flip(0, where, 0, 0));
        }
        VitalTwin twin = copying(1);
        String before = Check.state(twin);
        for (int copy : new int[] {-1, 2, Integer.MIN_VALUE, Integer.MAX_VALUE}) {
            Check.due("flip of copy " + copy, false, twin.flip(copy, 0, 0, 0));
        }
        for (int bit : new int[] {-1, 64, Integer.MIN_VALUE, Integer.MAX_VALUE}) {
            Check.due("flip of bit " + bit, false, twin.flip(0, 0, bit, 0));
        }
        for (int step : new int[] {-1, Integer.MIN_VALUE}) {
            Check.due("flip ahead of STEP " + step, false, twin.flip(0, 0, 0, step));
        }
        Check.due("nothing has changed", before, Check.state(twin));
        Check.due("and it is EMITTED", 1, twin.cycle());
    }

    /** "or 8 are planned for that CYCLE". */
    private static void eightAreTheMost() {
        VitalTwin twin = copying(1);
        for (int n = 0; n < 8; n++) {
            Check.due("planned", n, twin.count(12));
            Check.due("flip " + n, true, twin.flip(0, -2, n, n < 4 ? 0 : 400));
        }
        Check.due("a ninth", false, twin.flip(0, -2, 0, 0));
        Check.due("a ninth of the other copy", false, twin.flip(1, -2, 0, 5));
        Check.due("planned", 8, twin.count(12));
        twin.steps(1);
        Check.due("done", 4, twin.count(13));
        Check.due("done ones count till the CYCLE ends", false, twin.flip(0, -2, 0, 5));
        Check.due("planned", 8, twin.count(12));
        Check.due("it is EMITTED", 1, twin.cycle());
        Check.due("none planned", 0, twin.count(12));
        for (int n = 0; n < 8; n++) {
            Check.due("flip " + n + " of the next CYCLE", true, twin.flip(1, -2, n, 0));
        }
        Check.due("a ninth", false, twin.flip(1, -2, 9, 0));
        twin.power();
        Check.due("none planned behind power()", 0, twin.count(12));
        Check.due("one", true, twin.flip(1, -2, 9, 0));
    }

    /** "ahead of a STEP of the CYCLE that has begun, or else of the next one"; "the STEP was done already". */
    private static void stepsThatWereDone() {
        VitalTwin twin = copying(1);
        for (int done = 0; done < 6; done++) {
            for (int step = 0; step < done; step++) {
                Check.due("STEP " + step + " behind " + done, false, twin.flip(0, -2, 0, step));
            }
            Check.due("the STEP that comes next", true, twin.flip(0, -2, done, done));
            Check.due("planned", done + 1, twin.count(12));
            twin.steps(1);
            Check.due("done", done + 1, twin.count(13));
            Check.due("B of the first", (1L << done + 1) - 1, twin.register(0, 1));
        }
        Check.due("it is EMITTED", 1, twin.count(8));
        Check.due("STEP 0 of the next CYCLE", true, twin.flip(0, -2, 0, 0));
    }

    /** "What was planned for a STEP that the CYCLE has not is forgotten with it." */
    private static void stepsThatTheCycleHasNot() {
        for (int step : new int[] {6, 7, 200000, Integer.MAX_VALUE}) {
            VitalTwin twin = copying(1);
            Check.due("flip ahead of STEP " + step, true, twin.flip(0, 1, 0, step));
            Check.due("it is EMITTED", 1, twin.cycle());
            Check.due("none planned", 0, twin.count(12));
            Check.due("none done", 0, twin.count(13));
            Check.due("the next one, too", 1, twin.cycle());
            Check.due("none done", 0, twin.count(13));
        }
        VitalTwin last = copying(1);
        last.flip(0, 1, 0, 5);
        Check.due("its last STEP is one", 0, last.cycle());
        // one that LATCHES ahead of the STEP forgets it, too
        VitalTwin latched = Check.made("in b:bool;cycle{assert b;}");
        latched.flip(0, 0, 0, 3);
        latched.cycle();
        Check.due("none planned", 0, latched.count(12));
        latched.power();
        latched.input(0, 1);
        Check.due("it is EMITTED", 1, latched.cycle());
        Check.due("none done", 0, latched.count(13));
    }

    /** "it has LATCHED". */
    private static void flipsWhenLatched() {
        VitalTwin twin = Check.made("in b:bool;cycle{assert b;}");
        twin.cycle();
        Check.due("flip when it has LATCHED", false, twin.flip(0, -1, 0, 0));
        Check.due("flip when it has LATCHED, far behind", false, twin.flip(0, -1, 0, 99));
        Check.due("none planned", 0, twin.count(12));
        twin.power();
        Check.due("behind power()", true, twin.flip(0, -1, 0, 0));
    }

    /** "Of several ahead of one STEP those planned first are done first": all are done, twice the same bit is none. */
    private static void thoseThatArePlannedFirst() {
        VitalTwin twin = copying(1);
        for (int n = 0; n < 8; n++) {
            twin.flip(0, 1, n / 2, 5);
        }
        Check.due("each bit twice", 1, twin.cycle());
        Check.due("all are done", 8, twin.count(13));
        twin.flip(0, 1, 3, 5);
        twin.flip(0, 1, 3, 5);
        twin.flip(0, 1, 3, 5);
        Check.due("three times", 0, twin.cycle());
        Check.due("what it holds", 1 ^ 8, twin.cell(0, 1));
        VitalTwin order = copying(1);
        order.flip(0, 1, 1, 4);
        order.flip(0, 1, 2, 3);
        order.flip(0, 1, 3, 3);
        order.steps(4);
        Check.due("those of STEP 3", 1 ^ 4 ^ 8, order.cell(0, 1));
        Check.due("done", 2, order.count(13));
        order.steps(1);
        Check.due("that of STEP 4", 1 ^ 4 ^ 8 ^ 2, order.cell(0, 1));
    }

    /** A copy that does not run has cells, A and B as well; its A and B become 0 when it begins. */
    private static void flipsOfTheCopyThatDoesNotRun() {
        VitalTwin twin = copying(1);
        twin.flip(1, 1, 0, 0);
        twin.flip(1, -1, 7, 1);
        twin.flip(1, -2, 9, 2);
        twin.steps(2);
        Check.due("a cell of the second", 5 * CODING ^ 1, twin.cell(1, 1));
        Check.due("its A", 1 << 7, twin.register(1, 0));
        twin.steps(1);
        Check.due("A is 0 when it begins", 0, twin.register(1, 0));
        Check.due("B is 0 when it begins", 0, twin.register(1, 1));
        twin.flip(0, 0, 3, 3);
        twin.flip(0, -1, 2, 5);
        Check.due("the cell is written, so it is EMITTED", 1, twin.cycle());
        Check.due("a cell of the first", 1 ^ 8, twin.cell(0, 0));
        Check.due("its A, behind its HALT", 1 ^ 4, twin.register(0, 0));
        twin.flip(0, -1, 5, 0);
        twin.flip(0, -2, 5, 0);
        twin.steps(1);
        Check.due("A of the first, behind its first STEP", 1, twin.register(0, 0));
        Check.due("B of the first", 32, twin.register(0, 1));
    }

    /** What is given comes at the beginning of the CYCLE, ahead of what is turned ahead of STEP 0. */
    private static void flipsOfIn() {
        VitalTwin twin = copying(1);
        turnBoth(twin, 0, 1, 3, 0);
        Check.due("it is EMITTED", 1, twin.cycle());
        Check.due("what was turned", 3, twin.output(0));
        Check.due("the next CYCLE", 1, twin.cycle());
        Check.due("what was given", 1, twin.output(0));
    }

    private static void turnBoth(VitalTwin twin, int where, long from, long to, int step) {
        for (int copy = 0; copy <= 1; copy++) {
            long bits = copy == 0 ? from ^ to : CODING * from ^ CODING * to;
            for (int bit = 0; bit < 64; bit++) {
                if ((bits >>> bit & 1) == 1) {
                    Check.due("flip", true, twin.flip(copy, where, bit, step));
                }
            }
        }
    }

    /**
     * "12: FLIPS planned for the CYCLE that has begun or the next one (done ones, too, until it ends), 13: FLIPS done
     * since the machine began".
     */
    private static void countsOfFlips() {
        VitalTwin twin = copying(1);
        int[][] due = {{2, 1}, {2, 1}, {2, 1}, {2, 1}, {2, 2}, {0, 2}};
        twin.flip(0, -2, 0, 0);
        twin.flip(0, -2, 0, 4);
        Check.due("planned", 2, twin.count(12));
        Check.due("done", 0, twin.count(13));
        for (int n = 0; n < due.length; n++) {
            twin.steps(1);
            Check.due("planned behind " + n, due[n][0], twin.count(12));
            Check.due("done behind " + n, due[n][1], twin.count(13));
        }
        twin.flip(0, -2, 0, 1);
        twin.cycle();
        Check.due("done in two CYCLES", 3, twin.count(13));
        twin.flip(0, 1, 0, 5);
        twin.cycle();
        Check.due("LATCHED", 3, twin.count(11));
        Check.due("done, that one too", 4, twin.count(13));
        Check.due("none planned", 0, twin.count(12));
        twin.power();
        Check.due("done since the machine began", 0, twin.count(13));
    }

    private static void dueProbe(VitalTwin twin, int copy, int where, int step, int... want) {
        int all = 0;
        for (int what = 0; what < want.length; what++) {
            int got = twin.probe(copy, where, step, what);
            all += got;
            Check.due("probe(" + copy + ", " + where + ", " + step + ", " + what + ")", want[what], got);
        }
        Check.due("all bits", 64, all);
    }

    /**
     * "tried with each of 64 bits: how many would be EMITTED as without a flip (what 0), LATCH by 1, 2, 3 .., be EMITTED
     * otherwise (what 4)".
     */
    private static void probesOfAllBits() {
        VitalTwin twin = copying(1);
        // x: ahead of the first's LOAD, behind it, and the same of the second
        dueProbe(twin, 0, 0, 0, 0, 0, 0, 64, 0);
        dueProbe(twin, 0, 0, 1, 64, 0, 0, 0, 0);
        dueProbe(twin, 1, 0, 0, 0, 0, 0, 64, 0);
        dueProbe(twin, 1, 0, 3, 0, 0, 0, 64, 0);
        dueProbe(twin, 1, 0, 4, 64, 0, 0, 0, 0);
        // y: it is written at STEP 1 and at STEP 4
        dueProbe(twin, 0, 1, 1, 64, 0, 0, 0, 0);
        dueProbe(twin, 0, 1, 2, 0, 0, 0, 64, 0);
        dueProbe(twin, 0, 1, 5, 0, 0, 0, 64, 0);
        dueProbe(twin, 1, 1, 4, 64, 0, 0, 0, 0);
        dueProbe(twin, 1, 1, 5, 0, 0, 0, 64, 0);
        // A and B
        dueProbe(twin, 0, -1, 0, 64, 0, 0, 0, 0);
        dueProbe(twin, 0, -1, 1, 0, 0, 0, 64, 0);
        dueProbe(twin, 0, -1, 2, 64, 0, 0, 0, 0);
        dueProbe(twin, 0, -2, 1, 64, 0, 0, 0, 0);
        dueProbe(twin, 1, -1, 3, 64, 0, 0, 0, 0);
        dueProbe(twin, 1, -1, 4, 0, 0, 0, 64, 0);
        // that of the second becomes 0 when it begins
        dueProbe(twin, 1, -1, 2, 64, 0, 0, 0, 0);
    }

    /** LATCHES by 1 and by 2 among them. */
    private static void probesThatLatch() {
        // LOAD 0; CHECK; HALT
        VitalTwin check = Check.made("in b:bool;cycle{assert b;}");
        check.input(0, 1);
        dueProbe(check, 0, 0, 0, 63, 1, 0, 0, 0);
        dueProbe(check, 0, -1, 1, 63, 1, 0, 0, 0);
        dueProbe(check, 1, -1, 4, 64, 0, 0, 0, 0);
        // LOAD 0; LOADX 1 3; STORE 4; HALT, all elements being 0
        VitalTwin index = Check.made("in k:0..2;in a[3]:0..9;out o:0..9=0;cycle{o=a[k];}");
        dueProbe(index, 0, -1, 1, 2, 62, 0, 0, 0);
        dueProbe(index, 1, -1, 5, 0, 64, 0, 0, 0);
        index.input(2, 7);
        dueProbe(index, 0, -1, 1, 1, 62, 0, 1, 0);
        index.input(0, 1);
        dueProbe(index, 0, -1, 1, 0, 63, 0, 1, 0);
        // CONST 1; STORE 0; CONST 3; MOVE; LOAD 0; LE; JZ; ..: 0, and what is far below 0, makes more rounds, all else less
        VitalTwin rounds = Check.made("cycle{for n=1 to 3{}}");
        dueProbe(rounds, 0, 0, 2, 62, 0, 2, 0, 0);
    }

    /** "no such copy, cell, STEP (below 0) or what": the last ones that there are. */
    private static void probesAtTheEnds() {
        VitalTwin twin = Check.made(64, "in x[3]:0..9;cycle{}");
        for (int copy = 0; copy <= 1; copy++) {
            for (int where : new int[] {-2, -1, 0, 2}) {
                Check.due("probe of " + where, 64, twin.probe(copy, where, 0, 0));
                Check.due("the last what", 0, twin.probe(copy, where, 0, 4));
            }
            for (int where : new int[] {-3, 3, 63, 64, Integer.MIN_VALUE, Integer.MAX_VALUE}) {
                Check.due("probe of " + where, -1, twin.probe(copy, where, 0, 0));
            }
        }
        for (int copy : new int[] {-1, 2, Integer.MIN_VALUE, Integer.MAX_VALUE}) {
            Check.due("probe of copy " + copy, -1, twin.probe(copy, 0, 0, 0));
        }
        for (int step : new int[] {-1, Integer.MIN_VALUE}) {
            Check.due("probe of STEP " + step, -1, twin.probe(0, 0, step, 0));
        }
        for (int what : new int[] {-1, 5, Integer.MIN_VALUE, Integer.MAX_VALUE}) {
            Check.due("probe of what " + what, -1, twin.probe(0, 0, 0, what));
            Check.due("also for a STEP that the CYCLE has not", -1, twin.probe(0, 0, 99, what));
        }
        Check.due("no cell for a STEP that the CYCLE has not", -1, twin.probe(0, 3, 99, 0));
        Check.due("no copy for a STEP that the CYCLE has not", -1, twin.probe(2, 0, 99, 0));
    }

    /** "(A STEP that the CYCLE has not: all EMITTED.)". */
    private static void probesOfAStepThatIsNot() {
        VitalTwin twin = copying(1);
        for (int step : new int[] {6, 7, 1000000, Integer.MAX_VALUE}) {
            for (int where = -2; where <= 1; where++) {
                dueProbe(twin, 0, where, step, 64, 0, 0, 0, 0);
                dueProbe(twin, 1, where, step, 64, 0, 0, 0, 0);
            }
        }
        dueProbe(twin, 0, 1, 5, 0, 0, 0, 64, 0);
    }

    /**
     * "NONE without a program, while a CYCLE has begun that is not through, when it has LATCHED, FLIPS are planned, the
     * CYCLE would LATCH without a flip".
     */
    private static void probesThatTellNothing() {
        VitalTwin none = new VitalTwin(16);
        Check.due("probe without a program", -1, none.probe(0, -1, 0, 0));
        Check.due("probe of a STEP that there is not", -1, none.probe(0, -1, 99, 0));
        VitalTwin twin = copying(1);
        for (int done = 1; done <= 5; done++) {
            twin.steps(1);
            Check.due("behind " + done + " STEPS", -1, twin.probe(0, -2, 0, 0));
            Check.due("of a STEP that the CYCLE has not", -1, twin.probe(0, -2, 99, 0));
        }
        twin.steps(1);
        Check.due("when it is through", 64, twin.probe(0, -2, 0, 0));
        twin.flip(0, -2, 0, 99);
        Check.due("a FLIP is planned", -1, twin.probe(0, -2, 0, 0));
        twin.cycle();
        Check.due("it is forgotten", 64, twin.probe(0, -2, 0, 0));
        VitalTwin would = Check.made("in b:bool;out o:0..9=0;cycle{assert b;}");
        for (int what = 0; what <= 4; what++) {
            Check.due("the CYCLE would LATCH, what " + what, -1, would.probe(0, -2, 0, what));
            Check.due("a STEP that it has not, what " + what, -1, would.probe(0, -2, 99, what));
        }
        Check.due("it has not", 0, would.count(11));
        would.input(0, 1);
        Check.due("it would not", 64, would.probe(0, -2, 0, 0));
        would.input(0, 0);
        would.cycle();
        Check.due("it has LATCHED", -1, would.probe(0, -2, 0, 0));
        would.power();
        would.input(0, 1);
        Check.due("behind power()", 64, would.probe(0, -2, 0, 0));
        // a state that differs in one copy: the next CYCLE would LATCH by 3
        VitalTwin gate = Check.made("state s:0..9=4;out o:0..9=4;cycle{o=s;}");
        gate.flip(0, 0, 0, 5);
        Check.due("it is EMITTED", 1, gate.cycle());
        Check.due("the next one would not be", -1, gate.probe(0, 1, 0, 0));
        Check.due("nor is it", 0, gate.cycle());
    }

    /** The places to come back to are those of the STEP, for each bit that is tried. */
    private static void probesWithinCalls() {
        // fun: LOAD 0; STORE 1; RET; cycle: CALL 0; CALL 0; LOAD ..; it counts how often f was called
        VitalTwin twin = Check.made("state n:0..9=0;in x:0..9;out o:0..9=0;fun f(){n=min(n+1,9);}fun g(){f();f();}cycle{n=0;g();f();o=n;}");
        Check.due("cycle()", 1, twin.cycle());
        Check.due("three calls", 3, twin.output(0));
        int steps = twin.steps(200000);
        for (int step = 0; step < steps; step++) {
            Check.due("a cell that no one reads, ahead of STEP " + step, 64, twin.probe(step % 2, 1, step, 0));
        }
    }

    /** "All is as it was behind it." */
    private static void probesChangeNothing() {
        VitalTwin twin = Check.made("in x:0..9;state n:0..99=0;out y:0..999=5;cycle{n=min(n+1,99);y=n*x;assert y<90;}");
        twin.input(0, 3);
        for (int n = 0; n < 3; n++) {
            twin.cycle();
        }
        twin.input(0, 4);
        String before = Check.state(twin);
        for (int where = -2; where < 3; where++) {
            for (int step = 0; step < 40; step += 3) {
                twin.probe(step % 2, where, step, 0);
            }
        }
        Check.due("nothing has changed", before, Check.state(twin));
        Check.due("what was put out", 9, twin.output(0));
        Check.due("what was put out ahead of it", 6, twin.past(1, 0));
        Check.due("the next CYCLE", 1, twin.cycle());
        Check.due("what it puts out", 16, twin.output(0));
    }
}
