/** Promises 4 and 5: symbol and name; the cells of Terms 3. */
public final class SymbolTest {
    private static final String PROGRAM = "const k = -7; const t = true; type Col = red, green, blue; const g = green;"
            + "in a: -1..5; in b[3]: bool; fun f(p: Col, q: 2..4): 3..9 { var v: bool = t; for n = 1 to 3 { var w[2]: Col = blue; }"
            + " return q + q + 1 - 2; } out o[2]: 0..9 = 4; state s: bool = true; state e: Col = blue; fun h() { f(red, 3); }"
            + "cycle { var x: 0..9 = f(red, a > 0 ? 2 : 3); o[1] = x; h(); }";

    public static void main(String[] args) {
        allOfAProgram();
        wrongOnes();
        boundsOfFuns();
        cellsOfUnits();
        manyFuns();
        names();
        Check.end();
    }

    /** kind, type, low, high, cell, length, fun, value; fun's BOUND apart. */
    private static void due(VitalTwin twin, int i, String name, int... want) {
        Check.due("name of SYMBOL " + i, name, Check.name(twin, i));
        for (int what = 0; what < want.length; what++) {
            Check.due("symbol(" + i + ", " + what + ") of " + name, want[what], twin.symbol(i, what));
        }
    }

    private static void allOfAProgram() {
        VitalTwin twin = Check.made(PROGRAM.replace("q + q + 1 - 2", "clamp(q + q, 3, 9)"));
        int col = 3 + 2;
        due(twin, 0, "k", 0, 0, -7, -7, -1, 1, -1, -7, 0);
        due(twin, 1, "t", 0, 1, 1, 1, -1, 1, -1, 1, 0);
        due(twin, 2, "Col", 8, col, 0, 2, -1, 3, -1, 0, 0);
        due(twin, 3, "red", 9, col, 0, 0, -1, 1, -1, 0, 0);
        due(twin, 4, "green", 9, col, 1, 1, -1, 1, -1, 1, 0);
        due(twin, 5, "blue", 9, col, 2, 2, -1, 1, -1, 2, 0);
        due(twin, 6, "g", 0, col, 1, 1, -1, 1, -1, 1, 0);
        due(twin, 7, "a", 1, 0, -1, 5, 0, 1, -1, 0, 0);
        due(twin, 8, "b", 1, 1, 0, 1, 1, 3, -1, 0, 0);
        // cells: a 0, b 1 2 3, o 4 5, s 6, e 7; f: p 8, q 9, v 10, n 11, w 12 13, a TEMP 14; h: two TEMPS 15 16; cycle: x 17
        due(twin, 9, "f", 4, 0, 3, 9, 0, 2, -1, 0);
        due(twin, 10, "p", 5, col, 0, 2, 8, 1, 9, 0, 0);
        due(twin, 11, "q", 5, 0, 2, 4, 9, 1, 9, 0, 0);
        due(twin, 12, "v", 6, 1, 0, 1, 10, 1, 9, 0, 0);
        due(twin, 13, "n", 7, 0, 1, 3, 11, 1, 9, 0, 0);
        due(twin, 14, "w", 6, col, 0, 2, 12, 2, 9, 0, 0);
        due(twin, 15, "o", 2, 0, 0, 9, 4, 2, -1, 4, 0);
        due(twin, 16, "s", 3, 1, 0, 1, 6, 1, -1, 1, 0);
        due(twin, 17, "e", 3, col, 0, 2, 7, 1, -1, 2, 0);
        // f: 2 for v, 2 + 3 * (11 + 3) + 5 for the for, LOAD STORE LOAD MOVE LOAD ADD LOW HIGH, RET
        Check.due("BOUND of f", 2 + 49 + 8 + 1, twin.symbol(9, 8));
        int codeOfF = 2 + 2 + 5 + 3 + 6 + 8 + 1;
        due(twin, 18, "h", 4, 2, 0, 0, codeOfF, 0, -1, 0);
        Check.due("BOUND of h", 4 + 4 + 1 + 60 + 1, twin.symbol(18, 8));
        due(twin, 19, "x", 6, 0, 0, 9, 17, 1, -1, 0, 0);
        Check.due("SYMBOLS", 20, twin.count(1));
        Check.due("CELLS", 20, twin.count(3));
        Check.due("cells of in", 4, twin.count(6));
        Check.due("cells of out", 2, twin.count(7));
        Check.due("the first INSTRUCTION of cycle", codeOfF + 4 + 4 + 1 + 1, twin.count(4));
    }

    private static void wrongOnes() {
        VitalTwin twin = Check.made("in a: 3..5; cycle {}");
        Check.due("the only SYMBOL", 1, twin.symbol(0, 0));
        int[] wrong = {-1, Integer.MIN_VALUE, 1, 400, Integer.MAX_VALUE};
        for (int i : wrong) {
            for (int what = -1; what <= 9; what++) {
                Check.due("symbol(" + i + ", " + what + ")", -1, twin.symbol(i, what));
            }
            Check.due("name(" + i + ", 0)", -1, twin.name(i, 0));
        }
        int[] whats = {-1, 9, Integer.MIN_VALUE, Integer.MAX_VALUE};
        for (int what : whats) {
            Check.due("symbol(0, " + what + ")", -1, twin.symbol(0, what));
        }
        Check.due("a program of fewer SYMBOLS", 0, Check.compile(twin, "cycle {}"));
        Check.due("symbol(0, 0) of none", -1, twin.symbol(0, 0));
        Check.due("name(0, 0) of none", -1, twin.name(0, 0));
        Check.due("SYMBOLS", 0, twin.count(1));
        for (int n = 0; n < 2; n++) {
            Check.compile(twin, "in a: 3..5; in b: 3..5; cycle {}");
        }
        for (int n = 0; n < 2; n++) {
            Check.compile(twin, "in a: 3..5; cycle {}");
            Check.due("symbol(1, 0), that was one in another program", -1, twin.symbol(1, 0));
            Check.due("name(1, 0)", -1, twin.name(1, 0));
        }
    }

    private static void boundsOfFuns() {
        // 2 + rounds * 11 + 5 + RET
        VitalTwin twin = Check.made("fun a() { for i = 1 to 36362 {} } fun b() { for i = 1 to 36363 {} }"
                + "fun c() { b(); } fun d() { for i = 1 to 2000000000 { for j = 1 to 2000000000 {} } }"
                + "fun e() { for i = 1 to 36362 {} assert true; assert true; assert true; assert true; assert !true; } cycle {}");
        Check.due("BOUND below the greatest", 2 + 36362 * 11 + 5 + 1, twin.symbol(0, 8));
        Check.due("BOUND above it", 400000, twin.symbol(2, 8));
        Check.due("BOUND of what calls that", 400000, twin.symbol(4, 8));
        Check.due("a BOUND far above", 400000, twin.symbol(5, 8));
        Check.due("a BOUND just above", 400000, twin.symbol(8, 8));
        Check.due("BOUND of cycle", 1, twin.count(5));
    }

    /** Each variable has cells of its own, though it is visible no more. */
    private static void cellsOfUnits() {
        VitalTwin twin = Check.made("fun f(a: bool) { if (a) { var b: bool = a; } else { var c: bool = a; }"
                + "assert 1 + 2 * 3 > 0; } out o: bool = true; cycle { for i = 1 to 2 {} for j = 1 to 2 { var k: bool = true; }"
                + "f(true); assert 1 > 0; }");
        int[] cells = {0, 1, 2, 3, 0, 6, 7, 8};
        for (int i = 1; i < cells.length; i++) {
            Check.due("cell of " + Check.name(twin, i), cells[i], twin.symbol(i, 4));
        }
        Check.due("CELLS", 10, twin.count(3));
    }

    private static void manyFuns() {
        StringBuilder funs = new StringBuilder("fun f() { assert 1 > 0; }");
        for (int n = 1; n < 399; n++) {
            funs.append("fun f").append(n).append("(){}");
        }
        VitalTwin twin = Check.made(funs + "cycle { var v: bool = 1 > 0; f398(); }");
        Check.due("SYMBOLS", 400, twin.count(1));
        Check.due("cell of v", 1, twin.symbol(399, 4));
        Check.due("CELLS", 3, twin.count(3));
        Check.due("v is in no fun", -1, twin.symbol(399, 6));
        Check.due("cycle()", 1, twin.cycle());
        VitalTwin full = Check.made(funs + "fun g() {} cycle { assert 2 > 0; }");
        Check.due("CELLS", 2, full.count(3));
        Check.due("the TEMP of cycle", 1, full.code(full.count(4) + 1, 1));
    }

    private static void names() {
        VitalTwin twin = Check.made("in abcdefghijklmnopqrst: bool; in _A9: bool; cycle {}");
        Check.due("the longest name", "abcdefghijklmnopqrst", Check.name(twin, 0));
        Check.due("a name of all kinds of signs", "_A9", Check.name(twin, 1));
        Check.due("its first sign", '_', twin.name(1, 0));
        Check.due("its last sign", '9', twin.name(1, 2));
        int[] wrong = {-1, 3, Integer.MIN_VALUE, Integer.MAX_VALUE};
        for (int k : wrong) {
            Check.due("name(1, " + k + ")", -1, twin.name(1, k));
        }
        Check.due("behind the longest", -1, twin.name(0, 20));
        for (String name : new String[] {"abcdefghijklm", "nopqrstuvwxyz", "ABCDEFGHIJKLM", "NOPQRSTUVWXYZ", "_0123456789_", "Aa", "Zz",
            "iff", "i", "clam", "clampp", "If"}) {
            Check.due("a name", name, Check.name(Check.made("in " + name + ": bool; cycle {}"), 0));
        }
    }
}
