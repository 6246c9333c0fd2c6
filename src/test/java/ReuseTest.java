/** Promise 3: one object compiles program after program, and each is as a new object makes it, whatever was on the tape ahead of it. */
public final class ReuseTest {
    private static final String NESTED = "out o: 0..9 = 1; cycle { o = " + Check.repeat("(", 63) + "1 + 1" + Check.repeat(")", 63) + "; }";
    private static final String[] PROGRAMS = {
        "cycle { var v: bool = true; for i = 1 to 2 {} }",
        "in five: 5..9; in x: 0..9; out y: 0..18 = 4; const a = 1; fun f(p: 0..9): 0..18 { var q[3]: 0..9 = a; return p + q[1]; }"
                + "fun g() { for i = 1 to 3 { y = f(i); } } cycle { g(); y = f(x); }",
        "type T = r, s; fun f() { assert 1 + 2 * 3 > 0; } state t[2]: T = s; out b: bool = false; fun h(a: T) { f(); t[0] = a; }"
                + "cycle { var v: bool = t[0] == r; h(r); b = v; }",
        NESTED,
        "fun f() {} fun a() {} in x: bool; cycle { var f2: 0..9 = 3; var y: -1..9 = f2 - f2 % 2; }",
    };
    /** Each ends in the midst of something. */
    private static final String[] FAULTS = {
        "", "cycle {", "fun f(a: bool) { if (a) { var z: bool = a; case (1) { 1: {", "const a = 1; const a = 2;",
        "fun f(): 0..9 { return 1 + 2 * (3", "in x[4000]: bool; out y: 0..9 = 1; cycle { for i = 1 to 9 { y = i + $",
        "cycle { assert " + Check.repeat("!", 63) + "$", "cycle { var v: 0..99 = " + Check.repeat("1 + 2 * (", 60) + "$",
        "in x[4000]: bool; in y[100]: bool; fun f() { var z[96]: bool = true; } cycle { var w[97]: bool = true; }",
    };

    public static void main(String[] args) {
        oneBehindAnother();
        oneBehindAFault();
        manyFaults();
        namesOfTheOneAhead();
        Check.end();
    }

    private static String all(VitalTwin twin) {
        StringBuilder made = new StringBuilder(Check.state(twin));
        made.append(Check.listing(twin, 0)).append(Check.listing(twin, 1)).append(Check.ranges(twin));
        for (int i = 0; i < twin.count(1); i++) {
            made.append(Check.name(twin, i)).append(' ');
        }
        twin.input(0, 6);
        twin.input(1, 1);
        for (int n = 0; n < 3; n++) {
            made.append(twin.cycle()).append(Check.state(twin));
        }
        return made.toString();
    }

    private static void oneBehindAnother() {
        for (String first : PROGRAMS) {
            for (String second : PROGRAMS) {
                VitalTwin twin = Check.made(first);
                Check.due("the first again", 0, Check.compile(twin, first));
                twin.cycle();
                Check.due("the second", 0, Check.compile(twin, second));
                Check.due(second + " behind " + first, all(Check.made(second)), all(twin));
                Check.due("the second again", 0, Check.compile(twin, second));
                Check.due(second + " again", all(Check.made(second)), all(twin));
            }
        }
    }

    private static void oneBehindAFault() {
        for (String fault : FAULTS) {
            for (String program : PROGRAMS) {
                VitalTwin twin = new VitalTwin(4096);
                Check.due("a fault", true, Check.compile(twin, fault) > 0);
                Check.due("a program", 0, Check.compile(twin, program));
                Check.due(program + " behind " + fault, all(Check.made(program)), all(twin));
            }
        }
    }

    private static void manyFaults() {
        VitalTwin twin = new VitalTwin(4096);
        for (int n = 0; n < 20; n++) {
            for (String fault : FAULTS) {
                Check.due("a fault", true, Check.compile(twin, fault) > 0);
            }
        }
        Check.due("a program behind all these", 0, Check.compile(twin, NESTED));
        Check.due("what is made of it", all(Check.made(NESTED)), all(twin));
    }

    /** What was visible in another program is not. */
    private static void namesOfTheOneAhead() {
        VitalTwin twin = new VitalTwin(4096);
        for (int n = 0; n < 3; n++) {
            Check.due("a program", 0, Check.compile(twin, "const a = 1; const b = a; cycle {}"));
        }
        for (int n = 0; n < 3; n++) {
            Check.due("a is not visible", 3 + 16 * 10, Check.compile(twin, "const a = a; cycle {}"));
            Check.due("b is not visible", 3 + 16 * 23, Check.compile(twin, "const a = 1; const c = b; cycle {}"));
        }
    }
}
