import java.util.ArrayList;
import java.util.Arrays;
import java.util.List;

/** The edges that the RANGES of Terms 2, Terms 3 (CELLS), Terms 4 (CODE, BOUND) and Promises 4 to 8 name. */
public final class CodeEdgeTest {
    private static final int[] FAR = {Integer.MIN_VALUE, -1, Integer.MAX_VALUE};
    /** A program that has every OP; what each has for operands stands in OPERANDS. */
    private static final String ALL = "in i:0..9;in b:bool;in a[3]:0..9;out o:-99..99=0;out e[3]:-99..99=0;state f:bool=false;"
            + "fun g(){}fun h(p:0..9,q:bool){}"
            + "cycle{o=-i+abs(i)-i*i/(i+1)%7;o=min(i,max(i,clamp(i,-1,5)));e[1]=a[2];f=i<1||i<=2&&i>3;f=i>=4;f=i==5;f=i!=6;f=!b;"
            + "if(b){g();}else{}assert true;h(i,b);for n=1 to 2{}case(i){1:{}2..3:{}else{}}o=b?1:2;}";
    private static final String[] WORDS = {"CONST", "LOAD", "STORE", "MOVE", "LOADX", "STOREX", "ADD", "SUB", "MUL", "DIV", "REM", "MIN",
        "MAX", "LT", "LE", "GT", "GE", "EQ", "NE", "NEG", "ABS", "NOT", "LOW", "HIGH", "JUMP", "JZ", "JNZ", "CALL", "RET", "HALT", "CHECK"};
    private static final int[] OPERANDS = {1, 1, 1, 0, 2, 2, 0, 0, 0, 0, 0, 0, 0, 0, 0, 0, 0, 0, 0, 0, 0, 0, 1, 1, 1, 1, 1, 1, 0, 0, 0};

    public static void main(String[] args) {
        rangesOfTwo();
        rangesOfRests();
        rangesOfOne();
        rangesAtTheGreatest();
        cellsOfAll();
        cellsOfTheirOwn();
        cellsBehindTemps();
        tempsInUse();
        boundsAreReached();
        boundsOfFuns();
        noSuchSymbol();
        minusOneIsAnAnswer();
        firstCells();
        lengths();
        valuesThatAreTold();
        signsOfNames();
        noSuchInstruction();
        operandsOrNone();
        noSuchRange();
        oneAndNothing();
        rangesOfConsts();
        rangesOfRounds();
        rangesOfTemps();
        textsToTheirEnd();
        operandsAsTexts();
        Check.end();
    }

    /** The RANGE of the e that goes to v, in a program with x and y. */
    private static long[] rangeOf(VitalTwin twin, int[] x, int[] y, String e) {
        String program = "in x:" + x[0] + ".." + x[1] + ";in y:" + y[0] + ".." + y[1] + ";cycle{var v:-2000000000..2000000000=" + e + ";}";
        Check.due("compile() of " + program, 0, Check.compile(twin, program));
        int last = twin.count(2) - 3;
        return new long[] {twin.range(last, 0), twin.range(last, 1)};
    }

    private static void dueRange(String e, int[] x, int[] y, long low, long high) {
        long[] got = rangeOf(new VitalTwin(16), x, y, e);
        String told = e + " of x " + x[0] + ".." + x[1] + ", y " + y[0] + ".." + y[1];
        Check.due("the low end of " + told, low, got[0]);
        Check.due("the high end of " + told, high, got[1]);
    }

    private static long result(String mark, long a, long b) {
        switch (mark) {
            case "+":
                return a + b;
            case "-":
                return a - b;
            case "*":
                return a * b;
            case "/":
                return a / b;
            case "min":
                return Math.min(a, b);
            default:
                return Math.max(a, b);
        }
    }

    /**
     * "+ - *: the least and greatest of what the ends of both give. /: likewise, towards 0. min, max: of both lows, of
     * both highs": all pairs tried.
     */
    private static void rangesOfTwo() {
        int[][] some = {{0, 0}, {-1, -1}, {1, 1}, {-3, 0}, {0, 4}, {-3, 4}, {-5, -2}, {2, 5}, {-7, 7}};
        for (String mark : new String[] {"+", "-", "*", "/", "min", "max"}) {
            for (int[] x : some) {
                for (int[] y : some) {
                    if (mark.equals("/") && y[0] <= 0 && y[1] >= 0) {
                        continue;
                    }
                    long low = Long.MAX_VALUE;
                    long high = Long.MIN_VALUE;
                    for (int a = x[0]; a <= x[1]; a++) {
                        for (int b = y[0]; b <= y[1]; b++) {
                            low = Math.min(low, result(mark, a, b));
                            high = Math.max(high, result(mark, a, b));
                        }
                    }
                    dueRange(mark.length() > 1 ? mark + "(x,y)" : "x" + mark + "y", x, y, low, high);
                }
            }
        }
    }

    /**
     * "with m = the greatest |divisor| less 1: from -min(m, -low) (0 if low is not below 0) to min(m, high) (0 if high is
     * not above 0)".
     */
    private static void rangesOfRests() {
        int[] one = {1, 1};
        int[] minusOne = {-1, -1};
        int[] three = {3, 3};
        int[] mixed = {-9, -4};
        int[] wide = {-9, 9};
        dueRange("x%y", wide, one, 0, 0);
        dueRange("x%y", wide, minusOne, 0, 0);
        dueRange("x%y", wide, three, -2, 2);
        dueRange("x%y", wide, mixed, -8, 8);
        dueRange("x%y", new int[] {-1, 1}, three, -1, 1);
        dueRange("x%y", new int[] {-2, 2}, three, -2, 2);
        dueRange("x%y", new int[] {-3, 3}, three, -2, 2);
        dueRange("x%y", new int[] {0, 0}, three, 0, 0);
        dueRange("x%y", new int[] {0, 9}, three, 0, 2);
        dueRange("x%y", new int[] {-9, 0}, three, -2, 0);
        dueRange("x%y", new int[] {1, 9}, three, 0, 2);
        dueRange("x%y", new int[] {-9, -1}, three, -2, 0);
        dueRange("x%y", new int[] {5, 6}, new int[] {7, 9}, 0, 6);
        dueRange("x%y", new int[] {-6, -5}, new int[] {-9, -7}, -6, 0);
        dueRange("x%y", new int[] {-2000000000, 2000000000}, new int[] {-2000000000, -1}, -1999999999, 1999999999);
        dueRange("x%y", new int[] {-2000000000, 2000000000}, new int[] {1, 2000000000}, -1999999999, 1999999999);
    }

    /** "- : the negatives"; "abs, clamp: the least and greatest that can be"; "? : of both". */
    private static void rangesOfOne() {
        int[] y = {-3, 20};
        dueRange("-x", new int[] {-3, 5}, y, -5, 3);
        dueRange("-x", new int[] {0, 0}, y, 0, 0);
        dueRange("abs(x)", new int[] {0, 5}, y, 0, 5);
        dueRange("abs(x)", new int[] {-5, 0}, y, 0, 5);
        dueRange("abs(x)", new int[] {-5, 3}, y, 0, 5);
        dueRange("abs(x)", new int[] {-3, 5}, y, 0, 5);
        dueRange("abs(x)", new int[] {1, 5}, y, 1, 5);
        dueRange("abs(x)", new int[] {-5, -1}, y, 1, 5);
        dueRange("abs(x)", new int[] {-1, 1}, y, 0, 1);
        dueRange("clamp(x,2,4)", new int[] {-5, 1}, y, 2, 2);
        dueRange("clamp(x,2,4)", new int[] {-5, 2}, y, 2, 2);
        dueRange("clamp(x,2,4)", new int[] {-5, 3}, y, 2, 3);
        dueRange("clamp(x,2,4)", new int[] {-5, 9}, y, 2, 4);
        dueRange("clamp(x,2,4)", new int[] {3, 9}, y, 3, 4);
        dueRange("clamp(x,2,4)", new int[] {4, 9}, y, 4, 4);
        dueRange("clamp(x,2,4)", new int[] {5, 9}, y, 4, 4);
        dueRange("clamp(x,2,4)", new int[] {3, 3}, y, 3, 3);
        dueRange("clamp(x,3,3)", new int[] {-5, 9}, y, 3, 3);
        // the last INSTRUCTION of a ? is its last e's; of what it goes to both count
        dueRange("(x>0?x:y)+0", new int[] {-5, 9}, y, -5, 20);
        dueRange("(x>0?y:x)+0", new int[] {-5, 9}, y, -5, 20);
        dueRange("(x>0?1:x>1?-30:2)+0", new int[] {-5, 9}, y, -30, 2);
    }

    private static void rangesAtTheGreatest() {
        int[] widest = {-2000000000, 2000000000};
        int[] one = {1, 1};
        dueRange("-x", widest, one, -2000000000, 2000000000);
        dueRange("abs(x)", widest, one, 0, 2000000000);
        dueRange("x*y", widest, one, -2000000000, 2000000000);
        dueRange("x/y", widest, one, -2000000000, 2000000000);
        dueRange("x/-y", widest, one, -2000000000, 2000000000);
        dueRange("0-x", widest, one, -2000000000, 2000000000);
        dueRange("x/2+x/2", widest, one, -2000000000, 2000000000);
        dueRange("min(x,y)", widest, one, -2000000000, 1);
        dueRange("max(x,y)", widest, one, 1, 2000000000);
        dueRange("clamp(x,-2000000000,2000000000)", widest, one, -2000000000, 2000000000);
        dueRange("44721*x", new int[] {-44721, 44721}, one, -1999967841, 1999967841);
    }

    /**
     * "from 0 on: in, out, state as they stand, an array's elements one behind the other; then of each fun, as they stand,
     * and last of cycle".
     */
    private static void cellsOfAll() {
        VitalTwin none = Check.made("const k=1;type t=m;fun f(){}cycle{}");
        Check.due("no CELLS at all", 0, none.count(3));
        Check.dueThrow("cell(0, 0)", IndexOutOfBoundsException.class, () -> none.cell(0, 0));
        Check.due("no cell is flipped", false, none.flip(0, 0, 0, 0));
        Check.due("cycle()", 1, none.cycle());
        VitalTwin twin = Check.made("state s[2]:bool=true;fun f(p:bool,q:bool){var v[2]:bool=true;for n=1 to 2{}}"
                + "out o:bool=true;fun g(){}fun h(r:bool){assert 1>0;}in i[1]:bool;cycle{var w:bool=i[0];f(w,w);}");
        // s 0 1, o 2, i 3; f: p 4, q 5, v 6 7, n 8; h: r 9, a TEMP 10; cycle: w 11, two TEMPS
        int[][] due = {{0, 0}, {1, 0}, {2, 4}, {3, 5}, {4, 6}, {5, 8}, {6, 2}, {7, 17}, {8, 18}, {9, 9}, {10, 3}, {11, 11}};
        for (int[] one : due) {
            Check.due("symbol(" + one[0] + ", 4) of " + Check.name(twin, one[0]), one[1], twin.symbol(one[0], 4));
        }
        Check.due("CELLS", 14, twin.count(3));
    }

    /** "(each its own, though it is visible no more)". */
    private static void cellsOfTheirOwn() {
        VitalTwin twin = Check.made("in b:bool;cycle{if(b){var v:bool=b;}else{var v:bool=b;}for n=1 to 2{}for n=1 to 2{var v[3]:bool=true;}"
                + "var v:bool=b;}");
        int[] cells = {0, 1, 2, 3, 4, 5, 8};
        for (int i = 0; i < cells.length; i++) {
            Check.due("the cell of SYMBOL " + i, cells[i], twin.symbol(i, 4));
        }
        Check.due("CELLS", 9, twin.count(3));
    }

    /**
     * "parameters, the variables of var (arrays, too) and for as they stand .., then TEMPS": of each fun ahead of the next
     * one's.
     */
    private static void cellsBehindTemps() {
        VitalTwin twin = Check.made("in i:0..9;fun f(a:0..9):bool{var v[2]:0..9=3;return a+v[1]>4;}fun g(b:0..9){var w:0..9=b;assert w+i*2>=0;}"
                + "fun h(c:0..9){c=1;}out o:0..9=0;cycle{var z:0..9=i;for n=1 to 2{o=n;}if(f(z)){g(z);h(z);}}");
        // i 0, o 1; f: a 2, v 3 4, TEMP 5; g: b 6, w 7, TEMPS 8 9; h: c 10; cycle: z 11, n 12, TEMP 13
        int[][] cells = {{0, 0}, {2, 2}, {3, 3}, {5, 6}, {6, 7}, {8, 10}, {9, 1}, {10, 11}, {11, 12}};
        for (int[] one : cells) {
            Check.due("the cell of " + Check.name(twin, one[0]), one[1], twin.symbol(one[0], 4));
        }
        Check.due("CELLS", 14, twin.count(3));
        Check.due("the code", "CONST 3; STORE 3; STORE 4; LOAD 2; STORE 5; CONST 1; LOADX 3 2; MOVE; LOAD 5; ADD; STORE 5; CONST 4; MOVE; LOAD 5;"
                + " GT; RET; LOAD 6; STORE 7; LOAD 7; STORE 8; LOAD 0; STORE 9; CONST 2; MOVE; LOAD 9; MUL; MOVE; LOAD 8; ADD; STORE 8; CONST 0;"
                + " MOVE; LOAD 8; GE; CHECK; RET; CONST 1; STORE 10; RET; LOAD 0; STORE 11; CONST 1; STORE 12; CONST 2; MOVE; LOAD 12; LE; JZ 56;"
                + " LOAD 12; STORE 1; CONST 1; MOVE; LOAD 12; ADD; STORE 12; JUMP 43; LOAD 11; STORE 13; LOAD 13; STORE 2; CALL 0; JZ 72;"
                + " LOAD 11; STORE 13; LOAD 13; STORE 6; CALL 16; LOAD 11; STORE 13; LOAD 13; STORE 10; CALL 36; HALT", Check.listing(twin, 0));
    }

    /** "then TEMPS, as many as its code has use for"; "T the lowest TEMP that is not in use". */
    private static void tempsInUse() {
        String begin = "state s:0..1=0;state a[2]:0..1=0;fun f(){}fun g(p:0..1):0..1{return p;}"
                + "fun h(x:0..1,y:0..1,z:0..1):0..1{return x;}";
        // s, a, p, x, y, z
        int ahead = 7;
        String[][] due = {{"", "0"}, {"s=1;", "0"}, {"s=- -s;", "0"}, {"s=abs(clamp(s,0,1));", "0"}, {"f();", "0"}, {"if(s>1){}", "1"},
            {"s=s*s%2;s=s*s%2;", "1"}, {"case(s){}", "1"}, {"case(s){}case(s){}", "1"}, {"case(s){1..2:{}else{}}", "1"},
            {"case(s){else{case(s){else{case(s){}}}}}", "3"}, {"s=(1+s*0)%2;", "2"}, {"s=min(s,min(s,min(s,1)));", "3"},
            {"s=min(min(min(s,1),1),1);", "1"}, {"g(s);", "1"}, {"g(g(g(s)));", "1"}, {"h(s,s,s);", "3"}, {"h(s,s,h(s,s,s));", "5"},
            {"h(h(s,s,s),s,s);", "3"}, {"s=s>0&&s>0?s:s;", "1"}, {"a[0]=s;", "2"}, {"a[a[0]]=s;", "2"}, {"a[0]=s%2;", "2"},
            {"a[min(s,1)]=min(s,1);", "2"}, {"a[0]=min(s,min(s,1));", "3"}, {"for n=1 to 2{}", "1"}, {"var v:0..1=s;", "1"}};
        for (String[] one : due) {
            VitalTwin twin = Check.made(begin + "cycle{" + one[0] + "}");
            Check.due("CELLS of " + one[0], ahead + Integer.parseInt(one[1]), twin.count(3));
        }
    }

    /** BOUND is what the longest way does: STEPS of it, with what leads there. */
    private static void boundsAreReached() {
        String begin = "in x:0..3;in b:bool;out o:0..9=0;fun f(p:0..3):0..9{o=p;return p*2;}";
        String[] programs = {"", "o=1;", "if(b){o=1;}", "if(b){}else{o=1;o=2;}", "if(b){o=1;o=2;}else{}", "if(!b){}else if(x>2){o=1;}",
            "if(b){}else if(x>2){}else if(x>1){o=1;}else{o=1;o=1;}", "o=b?1:x;", "o=b?x+x:1;", "assert b||x>=0;", "assert !b||x>=0;",
            "if(b&&x>2){o=1;}", "case(x){}", "case(x){0:{o=1;}1:{}}", "case(x){0:{}1:{o=1;}}", "case(x){0..1:{o=1;o=1;o=1;o=1;o=1;o=1;}2:{}}",
            "case(x){3..3:{o=1;}else{o=2;}}", "case(x){1..2:{}else{}}", "for n=0 to 0{}", "for n=0 to 3{o=n;}", "for n=1 to 3{for m=1 to 2{o=n;}}",
            "o=f(x);", "f(f(x)/3);", "for n=0 to 3{f(n);}", "var a[4]:0..9=1;o=a[x];", "for n=1 to 2{if(b){o=n;}else{o=n;}}"};
        for (String statements : programs) {
            VitalTwin twin = Check.made(16, begin + "cycle{" + statements + "}");
            int most = 0;
            for (int x = 0; x <= 3; x++) {
                for (int b = 0; b <= 1; b++) {
                    twin.input(0, x);
                    twin.input(1, b);
                    most = Math.max(most, twin.steps(200000));
                    Check.due("it is EMITTED: " + statements, 0, twin.count(11));
                }
            }
            Check.due("BOUND of " + statements, twin.count(5), most / 2);
            Check.due("both copies do as much: " + statements, 0, most % 2);
        }
    }

    /** "8: of a fun its BOUND (400000 if it is greater; else 0)". */
    private static void boundsOfFuns() {
        // 2 + 11 for each round + 5, 2 for an assert, 3 for one with !, 1 for RET
        String rounds = "for n=1 to 36362{}";
        String[][] due = {{"", "1"}, {rounds, "399990"}, {rounds + "assert !true;" + Check.repeat("assert true;", 3), "399999"},
            {rounds + Check.repeat("assert true;", 5), "400000"}, {"for n=1 to 36363{}", "400000"}, {"for n=0 to 2000000000{}", "400000"},
            {"for n=-2000000000 to 2000000000{for m=-2000000000 to 2000000000{}}", "400000"}};
        for (String[] one : due) {
            VitalTwin twin = Check.made("fun f(){" + one[0] + "}fun g(){f();}cycle{}");
            int bound = Integer.parseInt(one[1]);
            Check.due("BOUND of a fun with " + one[0], bound, twin.symbol(0, 8));
            Check.due("of one that calls it", Math.min(400000, bound + 2), twin.symbol(twin.count(1) - 1, 8));
        }
        VitalTwin others = Check.made("const k=1;type t=m;in i:bool;out o:bool=true;state s:bool=true;fun f(p:bool){var v:bool=p;"
                + "for n=1 to 2{}}cycle{}");
        for (int i = 0; i < others.count(1); i++) {
            Check.due("BOUND of SYMBOL " + i, i == 6 ? 2 + 2 + 22 + 5 + 1 : 0, others.symbol(i, 8));
        }
    }

    /** "NONE if there is none such, or no such what". */
    private static void noSuchSymbol() {
        VitalTwin twin = Check.made("in a:3..5;in d:3..5;cycle{}");
        int[] last = {1, 0, 3, 5, 1, 1, -1, 0, 0};
        for (int what = 0; what <= 8; what++) {
            for (int i : FAR) {
                Check.due("symbol(" + i + ", " + what + ")", -1, twin.symbol(i, what));
            }
            Check.due("symbol(2, " + what + ")", -1, twin.symbol(2, what));
            Check.due("symbol(1, " + what + ") is there", last[what], twin.symbol(1, what));
        }
        for (int what : new int[] {-1, 9, Integer.MIN_VALUE, Integer.MAX_VALUE}) {
            Check.due("symbol(0, " + what + ")", -1, twin.symbol(0, what));
        }
        VitalTwin none = Check.made("cycle{}");
        Check.due("a program without SYMBOLS", -1, none.symbol(0, 0));
    }

    /** "(a RANGE's end and a value may be -1, too)", "(an operand may be -1, too)". */
    private static void minusOneIsAnAnswer() {
        VitalTwin twin = Check.made("const k=-1;in a:-1..-1;out o:-1..0=-1;cycle{o=k;o=clamp(a,-1,-1);}");
        Check.due("the value of a const", -1, twin.symbol(0, 7));
        Check.due("its RANGE", -1, twin.symbol(0, 2));
        Check.due("its RANGE", -1, twin.symbol(0, 3));
        Check.due("a RANGE's high end", -1, twin.symbol(1, 3));
        Check.due("the SAFE value", -1, twin.symbol(2, 7));
        Check.due("an operand", -1, twin.code(0, 1));
        Check.due("that of LOW", -1, twin.code(3, 1));
        Check.due("that of HIGH", -1, twin.code(4, 1));
        Check.due("texts", "CONST -1; STORE 1; LOAD 0; LOW -1; HIGH -1; STORE 1; HALT", Check.listing(twin, 0));
        Check.due("texts of the second", "CONST -58659; STORE 1; LOAD 0; LOW -58659; HIGH -58659; STORE 1; HALT", Check.listing(twin, 1));
        Check.due("a RANGE of A", -1, twin.range(0, 0));
        Check.due("its high end", -1, twin.range(0, 1));
        twin.cycle();
        Check.due("what is put out", -1, twin.output(0));
    }

    /**
     * "4: its first cell (NONE of a const, type, MEMBER; of a fun its first INSTRUCTION)"; "6: the SYMBOL of the fun that
     * it is in (NONE)".
     */
    private static void firstCells() {
        VitalTwin twin = Check.made("const k=1;type t=m;in i:bool;fun f(p:bool){var v:bool=p;for n=1 to 2{}}fun g(){}"
                + "cycle{var w:bool=i;for x=1 to 2{}}");
        int[] cells = {-1, -1, -1, 0, 0, 1, 2, 3, 16, 4, 5};
        int[] funs = {-1, -1, -1, -1, -1, 4, 4, 4, -1, -1, -1};
        for (int i = 0; i < cells.length; i++) {
            Check.due("symbol(" + i + ", 4)", cells[i], twin.symbol(i, 4));
            Check.due("symbol(" + i + ", 6)", funs[i], twin.symbol(i, 6));
        }
    }

    /** "5: how many elements (1 if it is no array; of a fun how many parameters, of a type how many MEMBERS)". */
    private static void lengths() {
        VitalTwin twin = Check.made("const k=1;type t=m;type u=x,y,z;in i:bool;in a[1]:bool;out o[4000]:bool=true;fun f(){}fun g(p:bool,q:bool){"
                + "for n=1 to 9{}}cycle{var v[7]:t=m;}");
        int[] due = {1, 1, 1, 3, 1, 1, 1, 1, 1, 4000, 0, 2, 1, 1, 1, 7};
        for (int i = 0; i < due.length; i++) {
            Check.due("symbol(" + i + ", 5)", due[i], twin.symbol(i, 5));
        }
        Check.due("SYMBOLS", due.length, twin.count(1));
    }

    /** "7: the value that is told for it (const, MEMBER, out, state; else 0; true 1)": what is told comes to the cells, too. */
    private static void valuesThatAreTold() {
        VitalTwin twin = Check.made("const n=false;const t=true;const k=-2000000000;const d=n;const z=-k;type e=m0,m1;const m=m1;in i:5..9;"
                + "out a:bool=false;out b:bool=true;out c[2]:e=m1;state f:bool=n;state g:bool=t;state h:-2000000000..0=k;state l:e=m;"
                + "fun q(p:3..4):3..4{var v:3..4=p;for x=7 to 8{}return v;}cycle{var w[2]:bool=false;var y[2]:bool=true;var s:bool=n;}");
        int[] due = {0, 1, -2000000000, 0, 2000000000, 0, 0, 1, 1, 0, 0, 1, 1, 0, 1, -2000000000, 1, 0, 0, 0, 0, 0, 0, 0};
        for (int i = 0; i < due.length; i++) {
            Check.due("symbol(" + i + ", 7) of " + Check.name(twin, i), due[i], twin.symbol(i, 7));
        }
        Check.due("SYMBOLS", due.length, twin.count(1));
        long[] cells = {0, 0, 1, 1, 1, 0, 1, -2000000000, 1};
        for (int k = 0; k < cells.length; k++) {
            Check.due("cell " + k, cells[k], twin.cell(0, k));
            Check.due("cell " + k + " of the second", 58659 * cells[k], twin.cell(1, k));
        }
        Check.due("false is put out", 0, twin.output(0));
        Check.due("true is put out", 1, twin.output(1));
        Check.due("what the variables begin with", "CONST 0; CONST 1; CONST 0", consts(twin, twin.count(4)));
    }

    private static String consts(VitalTwin twin, int from) {
        List<String> found = new ArrayList<>();
        for (int i = from; i < twin.count(2); i++) {
            if (twin.code(i, 0) == 0) {
                found.add(Check.text(twin, 0, i));
            }
        }
        return String.join("; ", found);
    }

    /** "Sign k of the name of SYMBOL i; NONE if there is none". */
    private static void signsOfNames() {
        VitalTwin twin = Check.made("in abcdefghijklmnopqrst:bool;in z:bool;cycle{}");
        Check.due("the first sign of the longest", 'a', twin.name(0, 0));
        Check.due("its last", 't', twin.name(0, 19));
        Check.due("none behind it", -1, twin.name(0, 20));
        Check.due("the only sign", 'z', twin.name(1, 0));
        Check.due("none behind it", -1, twin.name(1, 1));
        Check.due("none of a SYMBOL that is none", -1, twin.name(2, 0));
        for (int far : FAR) {
            Check.due("name(0, " + far + ")", -1, twin.name(0, far));
            Check.due("name(" + far + ", 0)", -1, twin.name(far, 0));
        }
        Check.due("a shorter name at the same number", 0, Check.compile(twin, "in xy:bool;cycle{}"));
        Check.due("its last sign", 'y', twin.name(0, 1));
        Check.due("nothing of the longer one", -1, twin.name(0, 2));
        Check.due("nothing of the second", -1, twin.name(1, 0));
        Check.due("none without a program", -1, new VitalTwin(16).name(0, 0));
    }

    /** "Of INSTRUCTION i .. NONE if there is none such, or no such what". */
    private static void noSuchInstruction() {
        VitalTwin twin = Check.made("cycle{}");
        Check.due("the only one", 29, twin.code(0, 0));
        for (int what = -1; what <= 3; what++) {
            Check.due("code(1, " + what + ")", -1, twin.code(1, what));
            for (int far : FAR) {
                Check.due("code(" + far + ", " + what + ")", -1, twin.code(far, what));
            }
        }
        for (int what : new int[] {-1, 3, Integer.MIN_VALUE, Integer.MAX_VALUE}) {
            Check.due("code(0, " + what + ")", -1, twin.code(0, what));
        }
        Check.due("one that a longer program had", 0, Check.compile(twin, "cycle{assert true;}") + Check.compile(twin, "cycle{}"));
        Check.due("code(1, 0)", -1, twin.code(1, 0));
        Check.due("code(1, 0) without a program", -1, new VitalTwin(16).code(1, 0));
    }

    /** "1, 2: its operands (0 where there is none)". */
    private static void operandsOrNone() {
        VitalTwin twin = Check.made(ALL);
        boolean[] met = new boolean[WORDS.length];
        for (int i = 0; i < twin.count(2); i++) {
            int op = twin.code(i, 0);
            met[op] = true;
            List<String> parts = new ArrayList<>(List.of(WORDS[op]));
            for (int n = 1; n <= OPERANDS[op]; n++) {
                parts.add(String.valueOf(twin.code(i, n)));
            }
            for (int n = OPERANDS[op] + 1; n <= 2; n++) {
                Check.due("an operand that " + WORDS[op] + " has not", 0, twin.code(i, n));
            }
            Check.due("the text of INSTRUCTION " + i, String.join(" ", parts), Check.text(twin, 0, i));
        }
        boolean[] all = new boolean[WORDS.length];
        Arrays.fill(all, true);
        Check.due("every OP", Arrays.toString(all), Arrays.toString(met));
    }

    /** "IndexOutOfBoundsException: there is no such INSTRUCTION or what". */
    private static void noSuchRange() {
        VitalTwin twin = Check.made("cycle{}");
        for (int what = 0; what <= 1; what++) {
            int asked = what;
            Check.due("range(0, " + what + ")", 1 - what, twin.range(0, what));
            for (int i : new int[] {-1, 1, Integer.MIN_VALUE, Integer.MAX_VALUE}) {
                Check.dueThrow("range(" + i + ", " + what + ")", IndexOutOfBoundsException.class, () -> twin.range(i, asked));
            }
        }
        for (int what : new int[] {-1, 2, Integer.MIN_VALUE, Integer.MAX_VALUE}) {
            Check.dueThrow("range(0, " + what + ")", IndexOutOfBoundsException.class, () -> twin.range(0, what));
        }
        VitalTwin none = new VitalTwin(16);
        Check.dueThrow("range(0, 0) without a program", IndexOutOfBoundsException.class, () -> none.range(0, 0));
    }

    /** "The RANGE of A behind INSTRUCTION i that sets A (0, 1, 4, 6 to 23) .. 1 and 0 for others". */
    private static void oneAndNothing() {
        VitalTwin twin = Check.made(ALL);
        for (int i = 0; i < twin.count(2); i++) {
            int op = twin.code(i, 0);
            boolean sets = op <= 1 || op == 4 || op >= 6 && op <= 23;
            boolean isOrdered = twin.range(i, 0) <= twin.range(i, 1);
            Check.due("a RANGE behind " + WORDS[op], sets, isOrdered);
            if (!sets) {
                Check.due("the low end behind " + WORDS[op], 1, twin.range(i, 0));
                Check.due("the high end behind " + WORDS[op], 0, twin.range(i, 1));
            }
        }
    }

    /** "(a value of BOOL: 0 and 1, of an ENUM 0 and its last MEMBER, but of CONST in an ARM it itself". */
    private static void rangesOfConsts() {
        VitalTwin twin = Check.made("type e=m0,m1,m2;type u=only;const k=m1;const t=false;const n=-7;cycle{var a:e=m1;var b:e=k;"
                + "var c:bool=true;var d:bool=t;var g[1]:e=m2;var h[1]:bool=false;var i[1]:-9..9=n;var j:u=only;"
                + "var l:-9..9=n;case(a){m0:{}m2:{}k:{}}case(l){n:{}-3..4:{}}case(j){only:{}}}");
        List<String> consts = new ArrayList<>();
        for (int i = 0; i < twin.count(2); i++) {
            if (twin.code(i, 0) == 0) {
                consts.add(twin.range(i, 0) + ".." + twin.range(i, 1));
            }
        }
        Check.due("the RANGES of all CONSTS", "0..2 0..2 0..1 0..1 0..2 0..1 -7..-7 0..0 -7..-7 0..0 2..2 1..1 -7..-7 -3..-3 4..4 0..0",
                String.join(" ", consts));
    }

    /**
     * "LOAD of a for's N ahead of its LE: up to one more than it may be in the BLOCK, ahead of its ADD as it may be there,
     * ADD one more at both ends".
     */
    private static void rangesOfRounds() {
        int[][] some = {{0, 0}, {-1, 0}, {3, 9}, {-2000000000, -2000000000}, {2000000000, 2000000000}, {-2000000000, 2000000000}};
        for (int[] one : some) {
            long low = one[0];
            long high = one[1];
            VitalTwin twin = Check.made("fun f(){for n=" + low + " to " + high + "{assert n>0;}}cycle{}");
            // CONST x, STORE, CONST y, MOVE, LOAD, LE, JZ; LOAD, STORE T, CONST, MOVE, LOAD T, GT, CHECK; CONST 1, MOVE, LOAD, ADD, STORE, JUMP
            String rest = " - 0..0 - " + low + ".." + high + " 0..1 - ";
            Check.due("RANGES of a for", low + ".." + low + " - " + high + ".." + high + " - " + low + ".." + (high + 1) + " 0..1 - " + low + ".."
                    + high + rest + "1..1 - " + low + ".." + high + " " + (low + 1) + ".." + (high + 1) + " - - - -", Check.ranges(twin));
            Check.due("RANGE of its N", low, twin.symbol(1, 2));
            Check.due("its high end", high, twin.symbol(1, 3));
        }
    }

    /** "LOAD of a TEMP: of the e that is kept there". */
    private static void rangesOfTemps() {
        String begin = "type e=m0,m1,m2;in x:-4..6;in b:bool;in c:e;state a[3]:-9..9=0;fun f(p:-9..9,q:bool,r:e){}";
        String[][] due = {{"f(x,b,c);", "-4..6 0..1 0..2"}, {"f(3,true,m1);", "3..3 0..1 0..2"},
            {"f(x+1,x>0,b?m0:c);", "-4..6 -4..6 -3..7 0..1 0..2"},
            {"a[1]=x;", "1..1 -4..6"}, {"a[clamp(x,0,2)]=-x;", "0..2 -6..4"}, {"case(x){1:{}}", "-4..6"}, {"case(c){m1:{}}", "0..2"},
            {"case(x){1..2:{}}", "-4..6 -4..6"}, {"case(x>0?9:x){1:{}}", "-4..6 -4..9"}, {"assert (b?x:7)>0;", "-4..7"},
            {"assert b==true;", "0..1"}, {"assert m1==c;", "0..2"}, {"assert min(x,2)>0;", "-4..6 -4..2"}};
        for (String[] one : due) {
            VitalTwin twin = Check.made(begin + "cycle{" + one[0] + "}");
            // behind a, x, b, c and f's own, all cells are TEMPS
            int first = 6 + 3;
            List<String> loads = new ArrayList<>();
            for (int i = twin.count(4); i < twin.count(2); i++) {
                if (twin.code(i, 0) == 1 && twin.code(i, 1) >= first) {
                    loads.add(twin.range(i, 0) + ".." + twin.range(i, 1));
                }
            }
            Check.due("LOADS of TEMPS in " + one[0], one[1], String.join(" ", loads));
        }
    }

    /** "Sign k of INSTRUCTION i of a copy (0, 1) as a text .. NONE if there is none". */
    private static void textsToTheirEnd() {
        VitalTwin twin = Check.made("in x:0..9;in a[2]:0..9;out o:0..9=0;cycle{o=a[1];}");
        Check.due("the first sign", 'C', twin.text(0, 0, 0));
        Check.due("the last one", '1', twin.text(0, 0, 6));
        Check.due("none behind it", -1, twin.text(0, 0, 7));
        Check.due("the last one of the second copy", '9', twin.text(1, 0, 10));
        Check.due("none behind that", -1, twin.text(1, 0, 11));
        Check.due("the last one of two operands", '2', twin.text(0, 1, 8));
        Check.due("none behind them", -1, twin.text(0, 1, 9));
        Check.due("the last one of a word alone", 'T', twin.text(0, 3, 3));
        Check.due("none behind it", -1, twin.text(0, 3, 4));
        Check.due("no INSTRUCTION", -1, twin.text(0, 4, 0));
        Check.due("no copy", -1, twin.text(2, 0, 0));
        for (int far : FAR) {
            Check.due("text(" + far + ", 0, 0)", -1, twin.text(far, 0, 0));
            Check.due("text(0, " + far + ", 0)", -1, twin.text(0, far, 0));
            Check.due("text(0, 0, " + far + ")", -1, twin.text(0, 0, far));
        }
        Check.due("text(0, 0, 0) without a program", -1, new VitalTwin(16).text(0, 0, 0));
    }

    /** "its operands, each with a blank ahead (of the second copy v times 58659)": from the lowest to the highest. */
    private static void operandsAsTexts() {
        int[] values = {0, 1, -1, 9, -9, 10, -10, 99, 100, 17, -17, 999999999, 1000000000, 2000000000, -2000000000, 36609};
        for (int v : values) {
            VitalTwin twin = Check.made("const k=" + v + ";in x:-2000000000..2000000000;state s:-2000000000..2000000000=0;"
                    + "cycle{s=k;s=clamp(x,k,k);}");
            long coded = 58659L * v;
            Check.due("texts of " + v, "CONST " + v + "; STORE 1; LOAD 0; LOW " + v + "; HIGH " + v + "; STORE 1; HALT", Check.listing(twin, 0));
            Check.due("of the second copy", "CONST " + coded + "; STORE 1; LOAD 0; LOW " + coded + "; HIGH " + coded + "; STORE 1; HALT",
                    Check.listing(twin, 1));
        }
        // cells, lengths and places to go to are as they are in both
        VitalTwin far = Check.made("in b:bool;in a[4000]:0..9;out o:0..9=0;cycle{if(b){o=a[3999];}"
                + Check.repeat("assert true;", 2000) + "if(b){}}");
        Check.due("cells of the second copy", "LOADX 1 4000", Check.text(far, 1, 3));
        Check.due("a cell", "STORE 4001", Check.text(far, 1, 4));
        Check.due("a place to go to", "JZ 5", Check.text(far, 1, 1));
        Check.due("one far behind", "JZ 4007", Check.text(far, 1, 4006));
    }
}
