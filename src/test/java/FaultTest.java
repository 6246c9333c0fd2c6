/** Promise 3, and of Terms 1 and 2 what is no program: each kind of fault at its place (the mark @ stands ahead of it). */
public final class FaultTest {
    private static final String BEGIN = "const K = 5; const T = true; type Col = red, green; type Two = one, two;"
            + "in i: 0..9; in b: bool; in ia[3]: 0..9; out o: 0..9 = 0; out oa[3]: 0..9 = 0; state s: -9..9 = 0;"
            + "state f: bool = false; state c: Col = red; fun nil() {} fun inc(x: 0..8): 1..9 { return x + 1; }"
            + "fun both(x: 0..9, y: bool): bool { return y && x > 0; }";

    public static void main(String[] args) {
        noFaults();
        tokens();
        grammar();
        toldAgain();
        names();
        uses();
        orders();
        typesOfOperators();
        typesOfWhatGoesSomewhere();
        typesOfC();
        ranges();
        zeroAndBeyond();
        numbersOfEs();
        nesting();
        callDepth();
        tooMany();
        tooLarge();
        theFirstFaultIsTold();
        faultsChangeNothing();
        Check.end();
    }

    /** A fault among STATEMENTS of cycle. */
    private static void within(int kind, String marked) {
        Check.dueFault(kind, BEGIN + "cycle {" + marked + "}");
    }

    /** A fault in an e that may be of any type: it stands in an assert, so that one without a fault tells 5. */
    private static void inE(int kind, String marked) {
        within(kind, "assert " + marked + ";");
    }

    private static void fine(String statements) {
        Check.dueNoFault(BEGIN + "cycle {" + statements + "}");
    }

    private static void noFaults() {
        Check.dueNoFault("cycle{}");
        Check.dueNoFault("// nothing\ncycle // here\n{ //}\n} // the end");
        Check.dueNoFault("const a=-2000000000;const b=2000000000;const c=-a;in x:a..b;cycle{}");
        Check.dueNoFault("const a=0000000001;in abcdefghijklmnopqrst:a..a;cycle{}");
        Check.dueNoFault("type t=a;const k=a;state x:t=k;cycle{x=k;x=a;}");
        Check.dueNoFault("type t=a;fun f(){var x:t=a;case(x){a:{}}}cycle{f();}");
        fine("o = 9 ; oa[2] = 0; nil(); inc(3); o = inc(min(i, 8)); f = both(i, b); s = -9; c = green;");
        fine("if (b) {} if (b) {} else {} if (b) {} else if (f) {} else if (T) {} else {}");
        fine("for n = -K to K { s = n; for m = 3 to 3 { s = n - 4 + m - m + 3; } }");
        fine("case (s) {} case (s) { else {} } case (s) { 1: {} -K .. K: {} 1: {} else {} } case (c) { red: {} red: {} }");
        fine("var v: 0..9 = i; var w[3]: Col = red; var u: bool = !b; w[1] = c; v = K; u = T;");
        fine("assert b ? f : T; s = b ? -9 : f ? 9 : 0; assert c == red; assert c != green; assert b == f;");
        fine("s = clamp(i * 1000, -9, 9); s = abs(-9) - 0; s = max(-9, min(9, i)) % 5 / 2; assert (1 < 2) == true || b;");
        fine("if (b) { var x: bool = b; } var x: bool = b; for x2 = 1 to 2 { var y: bool = b; } for x2 = 1 to 2 {}");
        Check.dueNoFault("fun f(f: bool) { var g: bool = f; } fun g(f2: bool, g: bool): bool { return g; } cycle { f(true); }");
    }

    private static void tokens() {
        Check.dueFault(1, "@");
        Check.dueFault(1, "   \n// only\n @");
        Check.dueFault(1, "cycle {} @cycle {}");
        Check.dueFault(1, "cycle {} @$");
        Check.dueFault(1, "const @abcdefghijklmnopqrstu = 1; cycle {}");
        Check.dueFault(1, "const a = @2000000001; cycle {}");
        Check.dueFault(1, "const a = @00000000001; cycle {}");
        Check.dueFault(1, "const a = -@9999999999; cycle {}");
        Check.dueFault(1, "const a = 1@a; cycle {}");
        Check.dueFault(1, "in a: 0@. .1; cycle {}");
        Check.dueFault(1, "in a: 0..@.1; cycle {}");
        Check.dueFault(1, "const @if = 1; cycle {}");
        Check.dueFault(1, "const @clamp = 1; cycle {}");
        within(1, "assert b @& b;");
        within(1, "assert b @| b;");
        within(1, "assert b @= b;");
        within(1, "assert b && @& b;");
        within(1, "assert b == @= b;");
        within(1, "o = 1 @\"");
        within(1, "o = 6 // 2;\n@");
        for (char sign = 33; sign < 127; sign++) {
            if ("\"#$&'.@\\^`|~".indexOf(sign) >= 0 && sign != '@') {
                Check.dueFault(1, "@" + sign + " cycle {}");
            }
        }
    }

    private static void grammar() {
        Check.dueFault(1, "@x");
        Check.dueFault(1, "@var x: bool = true; cycle {}");
        Check.dueFault(1, "const a @1; cycle {}");
        Check.dueFault(1, "const a = 1 @const b = 2; cycle {}");
        Check.dueFault(1, "const a = @; cycle {}");
        Check.dueFault(1, "const a = @(1); cycle {}");
        Check.dueFault(1, "const a = -@-1; cycle {}");
        Check.dueFault(1, "type t = @; cycle {}");
        Check.dueFault(1, "type t = a, @; cycle {}");
        Check.dueFault(1, "type t = a @b; cycle {}");
        Check.dueFault(1, "in a @= 0..1; cycle {}");
        Check.dueFault(1, "in a: 0..1 @= 1; cycle {}");
        Check.dueFault(1, "in a: 0 @1; cycle {}");
        Check.dueFault(1, "in a[1@,2]: bool; cycle {}");
        Check.dueFault(1, "in a[1] @bool; cycle {}");
        Check.dueFault(1, "out a: bool@; cycle {}");
        Check.dueFault(1, "state a: bool @true; cycle {}");
        Check.dueFault(1, "fun f @{} cycle {}");
        Check.dueFault(1, "fun f(@,) {} cycle {}");
        Check.dueFault(1, "fun f(a: bool, @) {} cycle {}");
        Check.dueFault(1, "fun f(a @bool) {} cycle {}");
        Check.dueFault(1, "fun f(a: bool @b: bool) {} cycle {}");
        Check.dueFault(1, "fun f() @bool {} cycle {}");
        Check.dueFault(1, "fun f(): bool { @} cycle {}");
        Check.dueFault(1, "fun f(): bool { return @; } cycle {}");
        Check.dueFault(1, "fun f(): bool { return true @} cycle {}");
        Check.dueFault(1, "fun f(): bool { return true; @return true; } cycle {}");
        Check.dueFault(1, "fun f(): bool { return true; @; } cycle {}");
        Check.dueFault(1, "fun f(): bool { if (true) { @return true; } return true; } cycle {}");
        Check.dueFault(1, "fun f() { @return 1; } cycle {}");
        Check.dueFault(1, "cycle @");
        Check.dueFault(1, "cycle {@");
        within(1, "@return 1;");
        within(1, "@;");
        within(1, "@{}");
        within(1, "@const z = 1;");
        within(1, "@else {}");
        within(1, "o @+ 1;");
        within(1, "o = 1 @o = 2;");
        within(1, "o = @;");
        within(1, "o @== 1;");
        within(1, "oa[1@, 2] = 1;");
        within(1, "oa[1] @; ");
        within(1, "nil() @= 1;");
        within(1, "nil(@, 1);");
        within(1, "both(1, @);");
        within(1, "both(1 @b);");
        within(1, "if @b {}");
        within(1, "if (b @{}");
        within(1, "if (b) @o = 1;");
        within(1, "if (b) {} else @o = 1;");
        within(1, "if (b) {} else {} @else {}");
        within(1, "for @1 = 1 to 2 {}");
        within(1, "for n @: 1 to 2 {}");
        within(1, "for n = 1 @.. 2 {}");
        within(1, "for n = 1 to 2 @; {}");
        within(1, "case @s {}");
        within(1, "case (s) @;");
        within(1, "case (s) { 1 @{} }");
        within(1, "case (s) { 1: @; }");
        within(1, "case (s) { else {} @1: {} }");
        within(1, "case (s) { else {} @else {} }");
        within(1, "case (s) { 1: {} @; }");
        within(1, "var v @= 1;");
        within(1, "var v: 0..1 @;");
        within(1, "var v[2]: bool = @!true;");
        within(1, "var v[2]: bool = true @&& true;");
        within(1, "assert b@");
        inE(1, "1 < 2 @< 3");
        inE(1, "b == b @!= b");
        inE(1, "b && 1 < 2 @== b");
        inE(1, "b ? b @; b");
        inE(1, "b ? @: b");
        inE(1, "b && @&& b");
        inE(1, "@+ 1");
        inE(1, "(b@");
        inE(1, "@)");
        inE(1, "min@");
        inE(1, "min(1@) > 0");
        inE(1, "min(1, 2@, 3) > 0");
        inE(1, "abs(1@, 2) > 0");
        inE(1, "clamp(1, 2@) > 0");
        inE(1, "clamp(1, @(2), 3) > 0");
        inE(1, "clamp(1, 2, 3@, 4) > 0");
        inE(1, "@bool");
    }

    private static void toldAgain() {
        Check.dueFault(2, "const a = 1; const @a = 2; cycle {}");
        Check.dueFault(2, "const a = 1; type @a = b; cycle {}");
        Check.dueFault(2, "type a = @a; cycle {}");
        Check.dueFault(2, "type a = b, c, @b; cycle {}");
        Check.dueFault(2, "type a = b; in @b: bool; cycle {}");
        Check.dueFault(2, "type a = b; type c = @b; cycle {}");
        Check.dueFault(2, "in a: bool; out @a: bool = true; cycle {}");
        Check.dueFault(2, "in a: bool; fun @a() {} cycle {}");
        Check.dueFault(2, "fun a() {} fun @a() {} cycle {}");
        Check.dueFault(2, "fun f(a: bool, @a: bool) {} cycle {}");
        Check.dueFault(2, "in a: bool; fun f(@a: bool) {} cycle {}");
        Check.dueFault(2, "fun f(a: bool) { var @a: bool = true; } cycle {}");
        Check.dueFault(2, "fun f(a: bool) { for @a = 1 to 2 {} } cycle {}");
        within(2, "var @o: bool = b;");
        within(2, "var v: bool = b; var @v: bool = b;");
        within(2, "var v: bool = b; if (b) { var @v: bool = b; }");
        within(2, "for n = 1 to 2 { var @n: bool = b; }");
        within(2, "for n = 1 to 2 { for @n = 1 to 2 {} }");
        within(2, "for @red = 1 to 2 {}");
        within(2, "var @Col: bool = b;");
    }

    private static void names() {
        Check.dueFault(3, "const a = @a; cycle {}");
        Check.dueFault(3, "const a = -@b; cycle {}");
        Check.dueFault(3, "in a: bool; const b = @a; cycle {}");
        Check.dueFault(3, "type t = a; const b = @t; cycle {}");
        Check.dueFault(3, "fun f() {} const b = @f; cycle {}");
        Check.dueFault(3, "in a: @t; type t = b; cycle {}");
        Check.dueFault(3, "in a: bool; in c: @a; cycle {}");
        Check.dueFault(3, "in a: bool; in c: 1..@a; cycle {}");
        Check.dueFault(3, "in a[@n]: bool; cycle {}");
        Check.dueFault(3, "fun f(a: 0..1, c: @a..2) {} cycle {}");
        Check.dueFault(3, "fun f(a: 0..1): @a..2 { return 1; } cycle {}");
        Check.dueFault(3, "fun f(): bool { return @f(); } cycle {}");
        Check.dueFault(3, "fun f() { @f(); } cycle {}");
        Check.dueFault(3, "fun f() { @g(); } fun g() {} cycle {}");
        Check.dueFault(3, "fun f(a: bool) { var d: bool = a; } cycle { assert @d; }");
        Check.dueFault(3, "fun f(a: bool) {} cycle { assert @a; }");
        Check.dueFault(3, "fun f() { assert @later; } in later: bool; cycle {}");
        within(3, "@unknown = 1;");
        within(3, "@unknown();");
        within(3, "o = @unknown;");
        within(3, "var v: 0..9 = @v;");
        within(3, "if (b) { var v: bool = b; } f = @v;");
        within(3, "for n = 1 to 2 {} o = @n;");
        within(3, "for n = 1 to @n {}");
        within(3, "for n = @o to 2 {}");
        within(3, "case (s) { @o: {} }");
        within(3, "case (s) { 1..@s: {} }");
        within(3, "o = clamp(i, @i, 9);");
        within(3, "var v[2]: 0..9 = @o;");
        inE(3, "@Col == red");
        inE(3, "red == @Col");
    }

    private static void uses() {
        within(3, "@K = 1;");
        within(3, "@i = 1;");
        within(3, "@ia[0] = 1;");
        within(3, "@red = red;");
        within(3, "@Col = red;");
        within(3, "for n = 1 to 2 { @n = 1; }");
        within(3, "@nil = 1;");
        within(3, "@nil;");
        within(3, "@oa = 1;");
        within(3, "@oa(1);");
        within(3, "@o[0] = 1;");
        within(3, "@o(1);");
        within(3, "@nil[0] = 1;");
        within(3, "@oa");
        within(3, "@oa $");
        within(3, "o = @inc;");
        within(3, "o = @nil;");
        within(3, "o = @inc[1];");
        within(3, "o = @ia;");
        within(3, "o = @ia(1);");
        within(3, "o = @i[0];");
        within(3, "o = @i(0);");
        within(3, "o = @K[0];");
        within(3, "c = @red(0);");
        within(3, "for n = 1 to 2 { o = @n[0]; }");
        inE(3, "true + @ia");
        inE(3, "1 && @ia $");
        // behind a C nothing is asked so
        Check.dueFault(1, "const a = 1; const c = a@[0]; cycle {}");
        Check.dueFault(1, "const a = 1; in c: 0..a@(; cycle {}");
        within(1, "case (s) { K@[ : {} }");
    }

    private static void orders() {
        Check.dueFault(4, "in a: 1..@0; cycle {}");
        Check.dueFault(4, "in a: -1..@-2; cycle {}");
        Check.dueFault(4, "const k = 3; in a: 4..@k; cycle {}");
        Check.dueFault(4, "fun f(a: 1..@0) {} cycle {}");
        Check.dueFault(4, "fun f(): 1..@0 { return 1; } cycle {}");
        Check.dueFault(4, "in a[@0]: bool; cycle {}");
        Check.dueFault(4, "in a[@-1]: bool; cycle {}");
        Check.dueFault(4, "in a[@4097]: bool; cycle {}");
        Check.dueFault(4, "const k = 4097; out a[@k]: bool = true; cycle {}");
        Check.dueFault(11, "in a[4096]: bool; in b: bool; cycle {}@");
        within(4, "var v: 2..@1 = 1;");
        within(4, "var v[@0]: bool = true;");
        within(4, "for n = 2 to @1 {}");
        within(4, "for n = 2 to @-1 {}");
        within(4, "case (s) { 2..@1: {} }");
        within(4, "case (s) { 2..@-1: {} }");
        within(4, "case (c) { red@..green: {} }");
        within(4, "o = clamp(i, 2, @1);");
        within(4, "o = clamp(i, -1, @-2);");
    }

    private static void typesOfOperators() {
        String[] sums = {"+", "-", "*", "/", "%"};
        for (String op : sums) {
            inE(5, "1 @" + op + " b > 0");
            inE(5, "b @" + op + " 1 > 0");
            inE(5, "c @" + op + " c > 0");
        }
        String[] orders = {"<", "<=", ">", ">="};
        for (String op : orders) {
            inE(5, "b @" + op + " b");
            inE(5, "c @" + op + " c");
            inE(5, "1 @" + op + " b");
        }
        String[] sames = {"==", "!="};
        for (String op : sames) {
            inE(5, "1 @" + op + " b");
            inE(5, "c @" + op + " 1");
            inE(5, "c @" + op + " one");
            inE(5, "b @" + op + " c");
        }
        String[] logics = {"&&", "||"};
        for (String op : logics) {
            inE(5, "1 @" + op + " b");
            inE(5, "b @" + op + " 1");
            inE(5, "c @" + op + " b");
        }
        inE(5, "@-b");
        inE(5, "@-red == c");
        inE(5, "@!1");
        inE(5, "@!c");
        inE(5, "!@-b");
        inE(5, "-@!1 > 0");
        inE(5, "1 @? b : b");
        inE(5, "b @? 1 : b");
        inE(5, "b @? red : one");
        inE(5, "c @? b : b");
        inE(5, "@min(b, 1) > 0");
        inE(5, "@min(1, b) > 0");
        inE(5, "@max(c, c) > 0");
        inE(5, "@abs(b) > 0");
        inE(5, "@clamp(b, 0, 1) > 0");
        inE(5, "@clamp(c $");
        inE(5, "@nil()");
        inE(5, "b && @nil(1, 2)");
        // asked when the last operand was read, ahead of looking at the token behind
        inE(5, "1 @&& b $");
        inE(5, "b @+ 1 $");
        inE(5, "@min(b, 1 $");
        inE(5, "@abs(b $");
        inE(5, "@-b $");
        inE(5, "1 @? b : b $");
        inE(1, "1 && @$");
        inE(1, "b + @$");
        inE(1, "min(b @$");
        inE(1, "1 ? b @$");
        // the first that reading comes to is that of the inner one
        inE(5, "b + (1 @&& b)");
        inE(5, "b && 1 @+ b");
        inE(5, "b @+ 1 && 1");
        inE(5, "b @+ 1 < 2");
    }

    private static void typesOfWhatGoesSomewhere() {
        within(5, "o = @b;");
        within(5, "o = @(b);");
        within(5, "o = @!b;");
        within(5, "f = @1;");
        within(5, "f = @1 + 1 $");
        within(5, "c = @one;");
        within(5, "c = @0;");
        within(5, "oa[@b] = 1;");
        within(5, "oa[@red $");
        within(5, "oa[1] = @b;");
        within(5, "o = ia[@b];");
        within(5, "var v: bool = @1;");
        within(5, "var v: Col = @one;");
        within(5, "var v: 0..1 = @b;");
        within(5, "assert @1;");
        within(5, "assert @c $");
        within(5, "if (@1) {}");
        within(5, "if (b) {} else if (@c) {}");
        within(5, "case (@b) {}");
        within(5, "case (@b $");
        within(5, "inc(@b);");
        within(5, "both(1, @1);");
        within(5, "both(@b $");
        Check.dueFault(5, "fun f(): bool { return @1; } cycle {}");
        Check.dueFault(5, "fun f(): 0..1 { return @true $");
        Check.dueFault(5, "type t = a; type u = d; fun f(): t { return @d; } cycle {}");
    }

    private static void typesOfC() {
        Check.dueFault(5, "type t = a; const k = @-a; cycle {}");
        Check.dueFault(5, "const t = true; const k = @-t; cycle {}");
        Check.dueFault(1, "const k = -@true; cycle {}");
        Check.dueFault(1, "const k = -@false; cycle {}");
        Check.dueFault(5, "const t = true; in x: @t..1; cycle {}");
        Check.dueFault(5, "in x: @true..1; cycle {}");
        Check.dueFault(5, "in x: 0..@true; cycle {}");
        Check.dueFault(5, "type t = a; in x: @a..1; cycle {}");
        Check.dueFault(5, "in x[@true]: bool; cycle {}");
        Check.dueFault(5, "out x: bool = @1; cycle {}");
        Check.dueFault(5, "out x: 0..1 = @true; cycle {}");
        Check.dueFault(5, "out x: 0..1 = @false; cycle {}");
        Check.dueFault(5, "type t = a; type u = d; state x: t = @d; cycle {}");
        within(5, "var v[2]: bool = @1;");
        within(5, "for n = @T to 2 {}");
        within(5, "for n = 1 to @true {}");
        within(5, "case (s) { @true: {} }");
        within(5, "case (s) { 1..@red: {} }");
        within(5, "case (c) { @1: {} }");
        within(5, "case (c) { @one: {} }");
        within(5, "case (c) { @-red: {} }");
        within(5, "o = clamp(i, @T, 9);");
        within(5, "o = clamp(i, 0, @red);");
    }

    private static void ranges() {
        Check.dueFault(6, "out x: 0..1 = @2; cycle {}");
        Check.dueFault(6, "out x: 0..1 = @-1; cycle {}");
        Check.dueFault(6, "state x[2]: 5..6 = @4; cycle {}");
        Check.dueFault(6, "fun f(): 0..1 { return @2; } cycle {}");
        Check.dueFault(6, "fun f(a: -1..1): 0..1 { return @a $");
        within(6, "o = @10;");
        within(6, "o = @s;");
        within(6, "o = @(s);");
        within(6, "o = @-1;");
        within(6, "o = @i + 1;");
        within(6, "o = @10 $");
        within(6, "o = @b ? 1 : 10;");
        within(6, "oa[@3] = 1;");
        within(6, "oa[@s] = 1;");
        within(6, "oa[@-1] = 1;");
        within(6, "oa[0] = @10;");
        within(6, "o = ia[@i];");
        within(6, "o = ia[@3 $");
        within(6, "var v: 0..8 = @i;");
        within(6, "var v[2]: 0..8 = @9;");
        within(6, "inc(@9);");
        within(6, "inc(@i $");
        within(6, "both(@10, b);");
        within(6, "for n = 9 to 10 { o = @n; }");
        fine("o = inc(8); o = 9; s = -9; oa[2] = 9; o = ia[0]; for n = 0 to 9 { o = n; }");
    }

    private static void zeroAndBeyond() {
        within(7, "s = 9 @/ i;");
        within(7, "s = 9 @% i;");
        within(7, "s = 9 @/ 0;");
        within(7, "s = 9 @/ s;");
        within(7, "s = 9 @/ (i - 9);");
        within(7, "s = 9 @% (i - 9) $");
        fine("o = 9 / (i + 1); o = 9 % (i + 1); s = 9 / (-1 - i);");
        within(8, "s = 2000000000 @+ 1;");
        within(8, "s = -2000000000 @- 1;");
        within(8, "s = 50000 @* 50000;");
        within(8, "s = 2000000000 @* 2000000000;");
        within(8, "s = -2000000000 @* 2000000000 $");
        within(8, "s = 2000000000 @+ i;");
        within(8, "s = 2000000000 @- (s - 1) $");
        fine("s = clamp(2000000000 - i, 0, 9); s = clamp(-2000000000 + i, 0, 9); s = clamp(-(2000000000 / 1), 0, 9);"
                + "s = clamp(40000 * 50000, 0, 9); s = clamp(abs(-2000000000), 0, 9);");
        // the least first
        within(5, "s = b @/ 0;");
    }

    private static void numbersOfEs() {
        within(9, "nil(1@);");
        within(9, "inc(@);");
        within(9, "inc(1, 2@);");
        within(9, "both(1@);");
        within(9, "both(1, b, red, 7@);");
        within(9, "o = inc(@);");
        within(9, "o = inc(1, b@);");
        within(1, "both(1 @;");
        within(1, "inc(1, 2 @;");
    }

    private static void nesting() {
        // cycle's { is the first, so that 63 more may stand within it
        fine("o = " + Check.repeat("(", 63) + "1" + Check.repeat(")", 63) + ";");
        within(10, "o = " + Check.repeat("(", 63) + "@(1" + Check.repeat(")", 64) + ";");
        fine("s = " + Check.repeat("-", 63) + "1;");
        within(10, "s = " + Check.repeat("-", 63) + "@-1;");
        fine("f = " + Check.repeat("!", 63) + "b && " + Check.repeat("!", 63) + "b;");
        within(10, "f = " + Check.repeat("!", 63) + "@!b;");
        fine("o = " + Check.repeat("b ? 1 : ", 63) + "1;");
        within(10, "o = " + Check.repeat("b ? 1 : ", 63) + "b @? 1 : 1;");
        within(10, "o = " + Check.repeat("b ? ", 63) + "b @? 1 : 1");
        fine("o = " + Check.repeat("min(", 63) + "1" + Check.repeat(", 2)", 63) + ";");
        within(10, "o = " + Check.repeat("min(", 63) + "min@(1, 2)");
        fine("o = " + Check.repeat("clamp(", 63) + "1" + Check.repeat(", 0, 2)", 63) + ";");
        within(10, "o = " + Check.repeat("abs(", 63) + "abs@(1)");
        fine("o = " + Check.repeat("oa[clamp(", 31) + "oa[0" + Check.repeat("], 0, 2)", 31) + "];");
        within(10, "o = " + Check.repeat("oa[clamp(", 31) + "oa[ia@[0");
        fine(Check.repeat("if (b) {", 62) + "if (b) {" + Check.repeat("}", 63));
        within(10, Check.repeat("if (b) {", 63) + "if @(b) {");
        within(10, "for n = 1 to 1 {" + Check.repeat("if (b) {", 62) + "for m = 1 to 1 @{");
        within(10, Check.repeat("if (b) {", 63) + "var v@[2]: bool = b;");
        within(10, Check.repeat("if (b) {", 63) + "nil@();");
        within(10, Check.repeat("if (b) {", 63) + "oa@[0] = 1;");
        within(10, Check.repeat("if (b) {", 62) + "case (s) { 1: @{");
        within(10, Check.repeat("if (b) {", 62) + "case (s) { else @{");
        // - of a C is none in front
        fine(Check.repeat("if (b) {", 61) + "case (s) { -1 .. -1: {} }" + Check.repeat("}", 61));
        fine(Check.repeat("if (b) {", 63) + "var v: -1 .. -1 = 0 - 1;" + Check.repeat("}", 63));
        // else if does not stand within what is ahead of it
        fine("if (b) {}" + Check.repeat(" else if (b) {}", 100));
        // 1 comes ahead of 10
        within(1, Check.repeat("if (b) {", 63) + "if @b");
    }

    private static void callDepth() {
        StringBuilder funs = new StringBuilder("fun f1(): 0..1 { return 1; }");
        for (int n = 2; n <= 16; n++) {
            funs.append("fun f").append(n).append("(): 0..1 { return f").append(n - 1).append("(); }");
        }
        Check.dueNoFault(funs + "cycle { assert f16() == 1; f16(); }");
        Check.dueFault(10, funs + "fun f17(): 0..1 { return @f16(); } cycle {}");
        Check.dueFault(10, funs + "fun f17() { @f16(); } cycle {}");
        Check.dueFault(10, funs + "fun f17() { f15(); @f16(1); } cycle {}");
        Check.dueNoFault(funs + "fun g() { f15(); f3(); } cycle { g(); }");
        Check.dueFault(10, funs + "fun g() { f3(); f15(); } fun h() { f15(); @g(); } cycle {}");
        Check.dueNoFault(funs + "fun leaf() {} fun h() { leaf(); f15(); } cycle { h(); }");
        // 3 and 5 come ahead of it
        Check.dueFault(3, funs + "fun f17() { @f16; } cycle {}");
        Check.dueFault(5, funs + "fun f16b() { f15(); } fun f17(): 0..1 { return @f16b(); } cycle {}");
        // calls within the ES of a call are no calls within it
        Check.dueNoFault("fun f(a: 0..1): 0..1 { return a; } cycle { assert " + Check.repeat("f(", 30) + "1"
                + Check.repeat(")", 30) + " == 1; }");
    }

    private static void tooMany() {
        StringBuilder consts = new StringBuilder();
        for (int n = 0; n < 400; n++) {
            consts.append("const c").append(n).append("=1;");
        }
        Check.dueNoFault(consts + "cycle {}");
        Check.dueFault(10, consts + "const @more = 1; cycle {}");
        Check.dueFault(2, consts + "const @c7 = 1; cycle {}");
        Check.dueFault(10, consts + "cycle { var @more: bool = true; }");
        Check.dueFault(10, consts + "cycle { for @more = 1 to 2 {} }");
        Check.dueFault(10, consts + "fun @more() {} cycle {}");
        Check.dueFault(10, consts + "type @more = a; cycle {}");
        Check.dueFault(1, consts + "const @1 = 1; cycle {}");
        StringBuilder members = new StringBuilder("type t = m0");
        for (int n = 1; n < 64; n++) {
            members.append(", m").append(n);
        }
        Check.dueNoFault(members + "; cycle {}");
        Check.dueFault(10, members + ", @m64; cycle {}");
        Check.dueFault(2, members + ", @m7; cycle {}");
        String eight = "fun f(a: bool, b: bool, c: bool, d: bool, e: bool, f: bool, g: bool, h: bool";
        Check.dueNoFault(eight + ") {} cycle { f(true, true, true, true, true, true, true, true); }");
        Check.dueFault(10, eight + ", @i: bool) {} cycle {}");
        Check.dueFault(2, eight + ", @a: bool) {} cycle {}");
    }

    private static void tooLarge() {
        // each assert is 2 INSTRUCTIONS
        String asserts = Check.repeat("assert true;", 4095);
        Check.dueNoFault("fun f() {" + asserts + "} cycle {}");
        VitalTwin full = Check.made("fun f() {" + asserts + "} cycle {}");
        Check.due("8192 INSTRUCTIONS", 8192, full.count(2));
        Check.due("the last one", 29, full.code(8191, 0));
        Check.dueFault(11, "fun f() {" + asserts + "} fun g() {} cycle {}@");
        Check.dueFault(11, "fun f() {" + asserts + "assert true; } cycle {} // behind it @");
        Check.dueFault(1, "fun f() {" + asserts + "assert true; } cycle {} @+");
        Check.dueNoFault("in a[4096]: bool; cycle {}");
        Check.dueFault(11, "in a[4096]: bool; cycle { var x: bool = true; }@");
        Check.dueFault(16, 11, "in a[16]: 0..1; cycle { assert a[0] + 1 > 0; }@");
        Check.dueFault(16, 11, "in a[15]: 0..1; fun f() { var x[2]: bool = true; } cycle {}\n@");
        Check.due("no such fault with one cell less", 0, Check.compile(new VitalTwin(16),
                "in a[15]: 0..1; cycle { assert a[0] + 1 > 0; }"));
        // 2 + rounds * 11 + 5, 2 for the assert, 1 for HALT
        VitalTwin most = Check.made("cycle { for i = 1 to 9090 {} assert true; }");
        Check.due("the greatest BOUND", 100000, most.count(5));
        Check.dueFault(11, "cycle { for i = 1 to 9090 {} assert !true; }@");
        Check.dueFault(11, "cycle { for i = 1 to 9091 {} }@");
        Check.dueFault(11, "cycle { for i = -2000000000 to 2000000000 { for j = -2000000000 to 2000000000 {} } }@");
        Check.dueNoFault("fun f() { for i = 1 to 2000000000 {} } cycle {}");
        Check.dueFault(11, "fun f() { for i = 1 to 2000000000 {} } cycle { f(); }@");
    }

    private static void theFirstFaultIsTold() {
        Check.dueFault(2, "const a = 1; const @a = a b; cycle {}");
        Check.dueFault(3, "in x: @a..0; cycle {");
        within(6, "o = @10; o = unknown;");
        within(6, "o = inc(@9) + b;");
        within(5, "o = 1 @+ b + unknown;");
        within(3, "o = 1 + @unknown + b;");
        within(3, "o = b + @unknown;");
        within(4, "var v: 1..@0 = unknown;");
    }

    private static void faultsChangeNothing() {
        VitalTwin twin = Check.made("in x: 0..9; out y: 0..9 = 3; cycle { y = x; }");
        twin.input(0, 7);
        twin.cycle();
        twin.flip(0, 0, 1, 3);
        twin.steps(2);
        String before = Check.state(twin);
        Check.due("a fault", 1 + 16 * 5, Check.compile(twin, "cycle"));
        Check.due("what a fault leaves", before, Check.state(twin));
        Check.due("a fault far behind", 3 + 16 * 36, Check.compile(twin, "in q[9]: bool; cycle { var w:bool = z; }"));
        Check.due("what that leaves", before, Check.state(twin));
        Check.due("the names", "x", Check.name(twin, 0));
        Check.due("the code", "LOAD 0; STORE 1; HALT", Check.listing(twin, 0));
        Check.due("the rest of the cycle", 1, twin.cycle());
        Check.due("what is put out", 7, twin.output(0));
        Check.due("a program that comes then", 0, Check.compile(twin, "out z: 5..9 = 6; cycle {}"));
        Check.due("begins anew", 0, twin.count(8));
        Check.due("with its SAFE value", 6, twin.output(0));
    }
}
