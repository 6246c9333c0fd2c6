/** Promises 6, 7 and 8: code, range and text; what Terms 4 says of each e and STATEMENT, and BOUND. */
public final class CodeTest {
    private static final String PORTS = "const K = -5; const T = true; type Col = red, green, blue;"
            + "in i: -3..9; in b: bool; in ia[4]: 1..6; out o: -100..100 = 0; state s[3]: -50..50 = 0; state f: bool = false;"
            + "state c: Col = red;";
    // cells: i 0, b 1, ia 2 .. 5, o 6, s 7 8 9, f 10, c 11; of cycle from 12 on

    public static void main(String[] args) {
        simpleEs();
        operators();
        rangesOfSums();
        rangesOfRests();
        words();
        logic();
        choices();
        variables();
        elements();
        calls();
        ifs();
        cases();
        fors();
        asserts();
        temps();
        bounds();
        textsOfTheSecondCopy();
        wrongOnes();
        Check.end();
    }

    /** What is made of STATEMENTS of cycle, ahead of its HALT. */
    private static VitalTwin due(String statements, String listing, String ranges) {
        VitalTwin twin = Check.made(PORTS + "cycle {" + statements + "}");
        Check.due("the code of " + statements, listing + "; HALT", Check.listing(twin, 0));
        if (ranges != null) {
            Check.due("the ranges of " + statements, ranges + " -", Check.ranges(twin));
        }
        return twin;
    }

    private static void simpleEs() {
        due("o = 7;", "CONST 7; STORE 6", "7..7 -");
        due("o = K;", "CONST -5; STORE 6", "-5..-5 -");
        due("o = i;", "LOAD 0; STORE 6", "-3..9 -");
        due("o = -i;", "LOAD 0; NEG; STORE 6", "-3..9 -9..3 -");
        due("o = -7;", "CONST 7; NEG; STORE 6", "7..7 -7..-7 -");
        due("f = true;", "CONST 1; STORE 10", "0..1 -");
        due("f = false;", "CONST 0; STORE 10", "0..1 -");
        due("f = T;", "CONST 1; STORE 10", "0..1 -");
        due("f = !b;", "LOAD 1; NOT; STORE 10", "0..1 0..1 -");
        due("c = green;", "CONST 1; STORE 11", "0..2 -");
        due("c = c;", "LOAD 11; STORE 11", "0..2 -");
        due("o = ((7));", "CONST 7; STORE 6", "7..7 -");
    }

    private static void operators() {
        String[] marks = {"+", "-", "*", "/", "%"};
        String[] words = {"ADD", "SUB", "MUL", "DIV", "REM"};
        for (int n = 0; n < marks.length; n++) {
            due("o = i " + marks[n] + " 2;", "LOAD 0; STORE 12; CONST 2; MOVE; LOAD 12; " + words[n] + "; STORE 6", null);
        }
        String[] compares = {"<", "<=", ">", ">=", "==", "!="};
        String[] compareWords = {"LT", "LE", "GT", "GE", "EQ", "NE"};
        for (int n = 0; n < compares.length; n++) {
            due("f = i " + compares[n] + " 2;",
                    "LOAD 0; STORE 12; CONST 2; MOVE; LOAD 12; " + compareWords[n] + "; STORE 10", "-3..9 - 2..2 - -3..9 0..1 -");
        }
        due("f = c == red;", "LOAD 11; STORE 12; CONST 0; MOVE; LOAD 12; EQ; STORE 10", "0..2 - 0..2 - 0..2 0..1 -");
        due("f = b != f;", "LOAD 1; STORE 12; LOAD 10; MOVE; LOAD 12; NE; STORE 10", "0..1 - 0..1 - 0..1 0..1 -");
        // from the left
        due("o = i - 2 - 3;", "LOAD 0; STORE 12; CONST 2; MOVE; LOAD 12; SUB; STORE 12; CONST 3; MOVE; LOAD 12; SUB; STORE 6",
                "-3..9 - 2..2 - -3..9 -5..7 - 3..3 - -5..7 -8..4 -");
        // the inner one with the next TEMP
        due("o = i + 2 * 3;", "LOAD 0; STORE 12; CONST 2; STORE 13; CONST 3; MOVE; LOAD 13; MUL; MOVE; LOAD 12; ADD; STORE 6",
                "-3..9 - 2..2 - 3..3 - 2..2 6..6 - -3..9 3..15 -");
        due("o = i - (2 - 3);", "LOAD 0; STORE 12; CONST 2; STORE 13; CONST 3; MOVE; LOAD 13; SUB; MOVE; LOAD 12; SUB; STORE 6", null);
        due("o = 2 * 3 + i;", "CONST 2; STORE 12; CONST 3; MOVE; LOAD 12; MUL; STORE 12; LOAD 0; MOVE; LOAD 12; ADD; STORE 6", null);
        due("o = - 2 * 3;", "CONST 2; NEG; STORE 12; CONST 3; MOVE; LOAD 12; MUL; STORE 6", null);
        due("f = !b == f;", "LOAD 1; NOT; STORE 12; LOAD 10; MOVE; LOAD 12; EQ; STORE 10", null);
        due("o = - - 2;", "CONST 2; NEG; NEG; STORE 6", "2..2 -2..-2 2..2 -");
    }

    /** The RANGE of the last e that goes to o. */
    private static void dueRange(String e, long low, long high) {
        VitalTwin twin = Check.made(PORTS + "in n: -7..-2; in p: 2..10; in z: -4..6; cycle { var v: -2000000000..2000000000 = "
                + e + "; }");
        int last = twin.count(2) - 3;
        Check.due("the low end of " + e, low, twin.range(last, 0));
        Check.due("the high end of " + e, high, twin.range(last, 1));
    }

    private static void rangesOfSums() {
        dueRange("z + p", -2, 16);
        dueRange("z - p", -14, 4);
        dueRange("p - z", -4, 14);
        dueRange("z * p", -40, 60);
        dueRange("z * n", -42, 28);
        dueRange("z * z", -24, 36);
        dueRange("n * n", 4, 49);
        dueRange("n * p", -70, -4);
        dueRange("z / p", -2, 3);
        dueRange("z / n", -3, 2);
        dueRange("n / p", -3, 0);
        dueRange("-n / p", 0, 3);
        dueRange("p / n", -5, 0);
        dueRange("7 / 2", 3, 3);
        dueRange("-7 / 2", -3, -3);
        dueRange("7 / -2", -3, -3);
        dueRange("2000000000 * 1", 2000000000, 2000000000);
        dueRange("-1999999999 - 1", -2000000000, -2000000000);
    }

    private static void rangesOfRests() {
        dueRange("z % p", -4, 6);
        dueRange("z % 3", -2, 2);
        dueRange("z % n", -4, 6);
        dueRange("p % 3", 0, 2);
        dueRange("n % 3", -2, 0);
        dueRange("n % p", -7, 0);
        dueRange("p % 1", 0, 0);
        dueRange("z % -1", 0, 0);
        dueRange("p % 100", 0, 10);
        dueRange("0 % 5", 0, 0);
    }

    private static void words() {
        due("o = min(i, 2);", "LOAD 0; STORE 12; CONST 2; MOVE; LOAD 12; MIN; STORE 6", "-3..9 - 2..2 - -3..9 -3..2 -");
        due("o = max(i, 2);", "LOAD 0; STORE 12; CONST 2; MOVE; LOAD 12; MAX; STORE 6", "-3..9 - 2..2 - -3..9 2..9 -");
        due("o = abs(i);", "LOAD 0; ABS; STORE 6", "-3..9 0..9 -");
        due("o = clamp(i, 0, 5);", "LOAD 0; LOW 0; HIGH 5; STORE 6", "-3..9 0..9 0..5 -");
        due("o = clamp(i, K, 50);", "LOAD 0; LOW -5; HIGH 50; STORE 6", "-3..9 -3..9 -3..9 -");
        due("o = clamp(i, 20, 50);", "LOAD 0; LOW 20; HIGH 50; STORE 6", "-3..9 20..20 20..20 -");
        due("o = clamp(i, -50, -20);", "LOAD 0; LOW -50; HIGH -20; STORE 6", "-3..9 -3..9 -20..-20 -");
        dueRange("abs(n)", 2, 7);
        dueRange("abs(p)", 2, 10);
        dueRange("abs(z)", 0, 6);
        dueRange("abs(-z)", 0, 6);
        dueRange("min(n, z)", -7, -2);
        dueRange("max(n, z)", -4, 6);
        dueRange("min(min(p, z), 4)", -4, 4);
    }

    private static void logic() {
        due("f = b && f;", "LOAD 1; JZ 3; LOAD 10; STORE 10", "0..1 - 0..1 -");
        due("f = b || f;", "LOAD 1; JNZ 3; LOAD 10; STORE 10", "0..1 - 0..1 -");
        due("f = b && f && T;", "LOAD 1; JZ 3; LOAD 10; JZ 5; CONST 1; STORE 10", null);
        due("f = b || f && T;", "LOAD 1; JNZ 5; LOAD 10; JZ 5; CONST 1; STORE 10", null);
        due("f = b && f || T;", "LOAD 1; JZ 3; LOAD 10; JNZ 5; CONST 1; STORE 10", null);
        due("f = b && (f || T);", "LOAD 1; JZ 5; LOAD 10; JNZ 5; CONST 1; STORE 10", null);
        due("f = i > 1 && b;", "LOAD 0; STORE 12; CONST 1; MOVE; LOAD 12; GT; JZ 8; LOAD 1; STORE 10", null);
    }

    private static void choices() {
        due("o = b ? 1 : 7;", "LOAD 1; JZ 4; CONST 1; JUMP 5; CONST 7; STORE 6", "0..1 - 1..1 - 7..7 -");
        due("o = b ? i : f ? 20 : K;", "LOAD 1; JZ 4; LOAD 0; JUMP 9; LOAD 10; JZ 8; CONST 20; JUMP 9; CONST -5; STORE 6", null);
        due("o = (b ? i : 20) + 1;", "LOAD 1; JZ 4; LOAD 0; JUMP 5; CONST 20; STORE 12; CONST 1; MOVE; LOAD 12; ADD; STORE 6",
                "0..1 - -3..9 - 20..20 - 1..1 - -3..20 -2..21 -");
        due("c = b ? red : c;", "LOAD 1; JZ 4; CONST 0; JUMP 5; LOAD 11; STORE 11", "0..1 - 0..2 - 0..2 -");
        dueRange("z > 0 ? n : p", 2, 10);
    }

    private static void variables() {
        due("var x: -9..9 = i; o = x;", "LOAD 0; STORE 12; LOAD 12; STORE 6", "-3..9 - -9..9 -");
        due("var x[3]: 2..9 = 4;", "CONST 4; STORE 12; STORE 13; STORE 14", "4..4 - - -");
        due("var x[2]: Col = green;", "CONST 1; STORE 12; STORE 13", "0..2 - -");
        due("var x[2]: bool = T;", "CONST 1; STORE 12; STORE 13", "0..1 - -");
        due("var x[1]: -9..9 = K; o = x[0];", "CONST -5; STORE 12; CONST 0; LOADX 12 1; STORE 6", "-5..-5 - 0..0 -9..9 -");
    }

    private static void elements() {
        due("o = ia[2];", "CONST 2; LOADX 2 4; STORE 6", "2..2 1..6 -");
        due("o = s[ia[0] % 3];", "CONST 0; LOADX 2 4; STORE 12; CONST 3; MOVE; LOAD 12; REM; LOADX 7 3; STORE 6",
                "0..0 1..6 - 3..3 - 1..6 0..2 -50..50 -");
        due("s[1] = i;", "CONST 1; STORE 12; LOAD 0; STORE 13; LOAD 12; MOVE; LOAD 13; STOREX 7 3",
                "1..1 - -3..9 - 1..1 - -3..9 -");
        due("s[clamp(i, 0, 2)] = i + 1;", "LOAD 0; LOW 0; HIGH 2; STORE 12; LOAD 0; STORE 13; CONST 1; MOVE; LOAD 13; ADD;"
                + " STORE 13; LOAD 12; MOVE; LOAD 13; STOREX 7 3", "-3..9 0..9 0..2 - -3..9 - 1..1 - -3..9 -2..10 - 0..2 - -2..10 -");
        due("s[1] = i; s[2] = 4;", "CONST 1; STORE 12; LOAD 0; STORE 13; LOAD 12; MOVE; LOAD 13; STOREX 7 3;"
                + " CONST 2; STORE 12; CONST 4; STORE 13; LOAD 12; MOVE; LOAD 13; STOREX 7 3", null);
        VitalTwin twin = due("s[1] = i;", "CONST 1; STORE 12; LOAD 0; STORE 13; LOAD 12; MOVE; LOAD 13; STOREX 7 3", null);
        Check.due("code of STOREX", 5, twin.code(7, 0));
        Check.due("its first operand", 7, twin.code(7, 1));
        Check.due("its second operand", 3, twin.code(7, 2));
    }

    private static void calls() {
        String funs = "fun nil() {} fun two(x: 0..20, y: bool): 0..20 { if (y) { x = 3; } return x; }";
        VitalTwin twin = Check.made("in i: 0..9; out o: 0..20 = 0;" + funs
                + "cycle { nil(); o = two(two(i, false), i > 2); two(i, true); }");
        // cells: i 0, o 1; two: x 2, y 3; cycle: TEMPS 4 5
        Check.due("code of calls", "RET; LOAD 3; JZ 5; CONST 3; STORE 2; LOAD 2; RET; CALL 0;"
                + " LOAD 0; STORE 4; CONST 0; STORE 5; LOAD 4; STORE 2; LOAD 5; STORE 3; CALL 1;"
                + " STORE 4; LOAD 0; STORE 5; CONST 2; MOVE; LOAD 5; GT; STORE 5; LOAD 4; STORE 2; LOAD 5; STORE 3; CALL 1; STORE 1;"
                + " LOAD 0; STORE 4; CONST 1; STORE 5; LOAD 4; STORE 2; LOAD 5; STORE 3; CALL 1; HALT", Check.listing(twin, 0));
        Check.due("ranges of calls", "- 0..1 - 3..3 - 0..20 - - 0..9 - 0..1 - 0..9 - 0..1 - -"
                + " - 0..9 - 2..2 - 0..9 0..1 - 0..20 - 0..1 - - - 0..9 - 0..1 - 0..9 - 0..1 - - -", Check.ranges(twin));
        Check.due("CELLS", 6, twin.count(3));
        Check.due("the first INSTRUCTION of cycle", 7, twin.count(4));
        Check.due("BOUND of two", 6, twin.symbol(3, 8));
        Check.due("BOUND", (1 + 1) + (9 + 6) + (14 + 6) + (9 + 6) + 1, twin.count(5));
        VitalTwin within = Check.made("in i: 0..9; fun id(x: 0..9): 0..9 { return x; } cycle { var v: 0..18 = i + id(i); }");
        Check.due("a call behind an operator", "LOAD 1; RET; LOAD 0; STORE 3; LOAD 0; STORE 4; LOAD 4; STORE 1; CALL 0; MOVE;"
                + " LOAD 3; ADD; STORE 2; HALT", Check.listing(within, 0));
    }

    private static void ifs() {
        due("if (b) { o = 1; }", "LOAD 1; JZ 4; CONST 1; STORE 6", null);
        due("if (b) {}", "LOAD 1; JZ 2", null);
        due("if (b) { o = 1; } else { o = 2; }", "LOAD 1; JZ 5; CONST 1; STORE 6; JUMP 7; CONST 2; STORE 6", null);
        due("if (b) {} else {}", "LOAD 1; JZ 3; JUMP 3", null);
        due("if (b) { o = 1; } else if (f) { o = 2; }",
                "LOAD 1; JZ 5; CONST 1; STORE 6; JUMP 9; LOAD 10; JZ 9; CONST 2; STORE 6", null);
        due("if (b) { o = 1; } else if (f) { o = 2; } else if (T) {} else { o = 3; }",
                "LOAD 1; JZ 5; CONST 1; STORE 6; JUMP 15; LOAD 10; JZ 10; CONST 2; STORE 6; JUMP 15; CONST 1; JZ 13; JUMP 15;"
                + " CONST 3; STORE 6", null);
    }

    private static void cases() {
        due("case (i) {}", "LOAD 0; STORE 12", "-3..9 -");
        due("case (i) { else { o = 1; } }", "LOAD 0; STORE 12; CONST 1; STORE 6", null);
        due("case (i) { 4: { o = 1; } }",
                "LOAD 0; STORE 12; CONST 4; MOVE; LOAD 12; EQ; JZ 10; CONST 1; STORE 6; JUMP 10",
                "-3..9 - 4..4 - -3..9 0..1 - 1..1 - -");
        due("case (i) { 4: {} K..6: { o = 1; } else { o = 2; } }",
                "LOAD 0; STORE 12; CONST 4; MOVE; LOAD 12; EQ; JZ 8; JUMP 23; CONST -5; MOVE; LOAD 12; GE; JZ 21;"
                + " CONST 6; MOVE; LOAD 12; LE; JZ 21; CONST 1; STORE 6; JUMP 23; CONST 2; STORE 6",
                "-3..9 - 4..4 - -3..9 0..1 - - -5..-5 - -3..9 0..1 - 6..6 - -3..9 0..1 - 1..1 - - 2..2 -");
        due("case (c) { blue: { o = 1; } }",
                "LOAD 11; STORE 12; CONST 2; MOVE; LOAD 12; EQ; JZ 10; CONST 1; STORE 6; JUMP 10",
                "0..2 - 2..2 - 0..2 0..1 - 1..1 - -");
        // its TEMP is in use to its end
        due("case (i) { else { o = i + 1; } } o = i + 1;",
                "LOAD 0; STORE 12; LOAD 0; STORE 13; CONST 1; MOVE; LOAD 13; ADD; STORE 6;"
                + " LOAD 0; STORE 12; CONST 1; MOVE; LOAD 12; ADD; STORE 6", null);
    }

    private static void fors() {
        due("for n = K to 3 { o = n; }",
                "CONST -5; STORE 12; CONST 3; MOVE; LOAD 12; LE; JZ 15; LOAD 12; STORE 6; CONST 1; MOVE; LOAD 12; ADD; STORE 12;"
                + " JUMP 2", "-5..-5 - 3..3 - -5..4 0..1 - -5..3 - 1..1 - -5..3 -4..4 - -");
        VitalTwin edge = Check.made("fun f() { for n = 2000000000 to 2000000000 {} } cycle {}");
        Check.due("LOAD ahead of LE at the edge", 2000000001, edge.range(4, 1));
        Check.due("ADD at the edge", 2000000001, edge.range(10, 0));
        Check.due("its high end", 2000000001, edge.range(10, 1));
    }

    private static void asserts() {
        due("assert b;", "LOAD 1; CHECK", "0..1 -");
    }

    private static void temps() {
        Check.due("no TEMPS", 1, Check.made("in b: bool; cycle { assert b && !b; }").count(3));
        Check.due("one TEMP", 2, Check.made("in i: 0..1; cycle { assert i + i + i > 0; }").count(3));
        Check.due("two TEMPS", 3, Check.made("in i: 0..1; cycle { assert i + i * i > 0; }").count(3));
        Check.due("three TEMPS", 4, Check.made("in i: 0..1; cycle { assert 0 < i + i * i; }").count(3));
        Check.due("TEMPS of each fun", 5, Check.made("in i: 0..1; fun f() { assert i > 0; } fun g() { assert 0 > i + i; }"
                + "cycle { assert i > 0; }").count(3));
    }

    private static int boundOf(String statements) {
        return Check.made(PORTS + "fun nil() {} fun one(): 1..1 { return 1; } cycle {" + statements + "}").count(5);
    }

    private static void bounds() {
        Check.due("BOUND of nothing", 1, boundOf(""));
        Check.due("BOUND of o = 1", 3, boundOf("o = 1;"));
        Check.due("BOUND of if", 5, boundOf("if (b) { o = 1; }"));
        Check.due("BOUND of if with a short else", 6, boundOf("if (b) { o = 1; } else {}"));
        Check.due("BOUND of if with a long else", 7, boundOf("if (b) {} else { o = 1; o = 1; }"));
        Check.due("BOUND of else if", 7, boundOf("if (b) {} else if (b) { o = 1; }"));
        Check.due("BOUND of else if, the first long", 10, boundOf("if (b) { o = 1; o = 1; o = 1; } else if (b) {}"));
        Check.due("BOUND of ?", 6, boundOf("f = b ? b : b;"));
        Check.due("BOUND of ? with a long last one", 8, boundOf("f = b ? b : !!!b;"));
        Check.due("BOUND of &&", 5, boundOf("f = b && b;"));
        Check.due("BOUND of ||", 5, boundOf("f = b || b;"));
        Check.due("BOUND of an empty case", 3, boundOf("case (i) {}"));
        Check.due("BOUND of an ARM", 9, boundOf("case (i) { 1: {} }"));
        Check.due("BOUND of two ARMS", 14, boundOf("case (i) { 1: {} 2: {} }"));
        Check.due("BOUND of ARMS, the first long", 15, boundOf("case (i) { 1: { o = 1; o = 1; o = 1; } 2: {} }"));
        Check.due("BOUND of an ARM of two", 14, boundOf("case (i) { 1..2: {} }"));
        Check.due("BOUND of a long else", 14, boundOf("case (i) { 1: {} else { o = 1; o = 1; o = 1; } }"));
        Check.due("BOUND of for", 2 + 3 * 13 + 5 + 1, boundOf("for n = 1 to 3 { o = n; }"));
        Check.due("BOUND of for in for", 2 + 3 * (11 + 2 + 2 * 11 + 5) + 5 + 1, boundOf("for n = 1 to 3 { for m = 1 to 2 {} }"));
        Check.due("BOUND of a call", 1 + 1 + 1, boundOf("nil();"));
        Check.due("BOUND of a call in an e", 1 + 2 + 1 + 1, boundOf("o = one();"));
        Check.due("BOUND of an array", 1 + 9 + 1, boundOf("var x[9]: bool = T;"));
    }

    private static void textsOfTheSecondCopy() {
        VitalTwin twin = Check.made(PORTS + "cycle { o = clamp(K, -3, 2); f = true; o = ia[1]; var q: 0..2000000000 = 2000000000;"
                + "var r: -2000000000..0 = clamp(0, -2000000000, 0); if (b) {} }");
        Check.due("the texts", "CONST -293295; LOW -175977; HIGH 117318; STORE 6; CONST 58659; STORE 10; CONST 58659; LOADX 2 4;"
                + " STORE 6; CONST 117318000000000; STORE 12; CONST 0; LOW -117318000000000; HIGH 0; STORE 13; LOAD 1; JZ 17; HALT",
                Check.listing(twin, 1));
        Check.due("code knows the values as they are", -5, twin.code(0, 1));
        Check.due("sign 0", 'C', twin.text(1, 0, 0));
        Check.due("sign 6", '-', twin.text(1, 0, 6));
        Check.due("sign behind the last", -1, twin.text(1, 0, 13));
        Check.due("words of two signs", "JZ 2", Check.text(Check.made("cycle { if (true) {} }"), 1, 1));
        Check.due("a word alone", "HALT", Check.text(Check.made("cycle {}"), 1, 0));
    }

    private static void wrongOnes() {
        VitalTwin twin = Check.made("in x: 0..1; cycle { assert x > 0; }");
        // LOAD 0; STORE 1; CONST 0; MOVE; LOAD 1; GT; CHECK; HALT
        Check.due("OP", 2, twin.code(1, 0));
        Check.due("its operand", 1, twin.code(1, 1));
        Check.due("none", 0, twin.code(1, 2));
        Check.due("an OP without operands", 0, twin.code(7, 1));
        int[] wrong = {-1, 8, 8191, 8192, Integer.MIN_VALUE, Integer.MAX_VALUE};
        for (int i : wrong) {
            Check.due("code(" + i + ", 0)", -1, twin.code(i, 0));
            Check.due("text(0, " + i + ", 0)", -1, twin.text(0, i, 0));
            for (int what = 0; what <= 1; what++) {
                int asked = what;
                Check.dueThrow("range(" + i + ", " + what + ")", IndexOutOfBoundsException.class, () -> twin.range(i, asked));
            }
        }
        int[] whats = {-1, 3, Integer.MIN_VALUE, Integer.MAX_VALUE};
        for (int what : whats) {
            Check.due("code(0, " + what + ")", -1, twin.code(0, what));
            Check.due("text(0, 0, k)", -1, twin.text(0, 0, what < 0 ? what : what + 3));
            Check.dueThrow("range(0, " + what + ")", IndexOutOfBoundsException.class, () -> twin.range(0, what));
        }
        Check.dueThrow("range(0, 2)", IndexOutOfBoundsException.class, () -> twin.range(0, 2));
        int[] copies = {-1, 2, Integer.MIN_VALUE, Integer.MAX_VALUE};
        for (int copy : copies) {
            Check.due("text of copy " + copy, -1, twin.text(copy, 0, 0));
        }
        VitalTwin none = new VitalTwin(16);
        Check.dueThrow("range without a program", IndexOutOfBoundsException.class, () -> none.range(0, 0));
    }
}
