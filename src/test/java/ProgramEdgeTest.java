/**
 * The edges that Terms 2 (A PROGRAM) names; ahead of each test stands the sentence that it is of, @ marks the place of a
 * fault.
 */
public final class ProgramEdgeTest {
    private static final String GREATEST = "2000000000";
    private static final String BEGIN = "const K=5;const T=true;type Col=red,green,blue;type One=only;in i:0..9;in b:bool;"
            + "in ia[3]:0..9;out o:0..9=0;out oa[3]:0..9=0;state s:-9..9=0;state f:bool=false;state c:Col=red;"
            + "state big:-2000000000..2000000000=0;fun nil(){}fun inc(x:0..8):1..9{return x+1;}"
            + "fun both(x:0..9,y:bool):bool{return y&&x>0;}";

    public static void main(String[] args) {
        theParts();
        membersOfAType();
        lengthsOfArrays();
        valuesThatAreTold();
        endsOfRanges();
        minusOfIntsAlone();
        parametersOrNone();
        returns();
        armsOrNone();
        elsesAndIfs();
        oneRound();
        oneComparison();
        visibleFromBehind();
        visibleToTheEnd();
        notToldAgain();
        theFunsOwnName();
        casesOfIntsAndEnums();
        Check.end();
    }

    private static void fine(String statements) {
        Check.dueNoFault(BEGIN + "cycle{" + statements + "}");
    }

    private static void fault(int kind, String marked) {
        Check.dueFault(kind, BEGIN + "cycle{" + marked + "}");
    }

    /** "A PROGRAM: DECLARATIONS, the word cycle, a BLOCK, the end": each of these may be empty or missing. */
    private static void theParts() {
        Check.dueNoFault("cycle{}");
        Check.dueFault(1, "@");
        Check.dueFault(1, "const a=1;@");
        Check.dueFault(1, "cycle@");
        Check.dueFault(1, "cycle{@");
        Check.dueFault(1, "cycle @;");
        Check.dueFault(1, "cycle{}@;");
        Check.dueFault(1, "cycle{}@}");
        Check.dueFault(1, "cycle{}@const a=1;");
        Check.dueFault(1, "cycle{}@cycle{}");
        Check.dueFault(1, "@;cycle{}");
        Check.dueFault(1, "@{}");
    }

    private static String names(String first, int many) {
        StringBuilder made = new StringBuilder(first + 0);
        for (int n = 1; n < many; n++) {
            made.append(',').append(first).append(n);
        }
        return made.toString();
    }

    /** "MEMBERS ; (one or more names with commas, 64 at most)"; "10 too much: .. a 65th MEMBER (at the name)". */
    private static void membersOfAType() {
        Check.dueFault(1, "type t=@;cycle{}");
        Check.dueFault(1, "type t=@,a;cycle{}");
        Check.dueFault(1, "type t=a,@;cycle{}");
        VitalTwin one = Check.made("type t=a;cycle{}");
        Check.due("a type of one MEMBER: its last", 0, one.symbol(0, 3));
        Check.due("how many", 1, one.symbol(0, 5));
        VitalTwin full = Check.made("type t=" + names("m", 64) + ";in x:t;cycle{}");
        Check.due("a full type: its last", 63, full.symbol(0, 3));
        Check.due("how many", 64, full.symbol(0, 5));
        Check.due("the last MEMBER", 63, full.symbol(64, 7));
        Check.due("its highest value", true, full.input(0, 63));
        Check.due("one more", false, full.input(0, 64));
        Check.dueFault(10, "type t=" + names("m", 64) + ",@m64;cycle{}");
        Check.dueFault(2, "type t=" + names("m", 64) + ",@t;cycle{}");
        Check.dueFault(1, "type t=" + names("m", 64) + ",@;cycle{}");
        // each type has its own 64
        Check.dueNoFault("type t=" + names("m", 64) + ";type u=" + names("n", 64) + ";cycle{}");
    }

    /** "an array's length not 1 .. 4096 (at it)". */
    private static void lengthsOfArrays() {
        String[] good = {"1", "2", "4096", "0001", "k", "-m", "n"};
        String[] wrong = {"0", "-1", "4097", "k0", "-k", "m", "n1", GREATEST, "-" + GREATEST};
        String consts = "const k=1;const m=-1;const k0=0;const n=4096;const n1=4097;";
        for (String length : good) {
            Check.dueNoFault(consts + "in a[" + length + "]:bool;cycle{}");
            Check.dueNoFault(consts + "out a[" + length + "]:bool=true;cycle{}");
            Check.dueNoFault(consts + "state a[" + length + "]:bool=true;cycle{}");
            Check.dueNoFault(consts + "cycle{var a[" + length + "]:bool=true;}");
        }
        for (String length : wrong) {
            Check.dueFault(4, consts + "in a[@" + length + "]:bool;cycle{}");
            Check.dueFault(4, consts + "out a[@" + length + "]:bool=true;cycle{}");
            Check.dueFault(4, consts + "state a[@" + length + "]:bool=true;cycle{}");
            Check.dueFault(4, consts + "fun f(){var a[@" + length + "]:bool=true;}cycle{}");
            // ahead of looking at what is behind it
            Check.dueFault(4, consts + "in a[@" + length + "$");
        }
        VitalTwin one = Check.made("in a[1]:0..9;cycle{assert a[0]>=0;}");
        Check.due("an array of one is an array", 1, one.symbol(0, 5));
        Check.dueFault(3, "in a[1]:0..9;cycle{assert @a>=0;}");
        Check.dueFault(6, "in a[1]:0..9;cycle{assert a[@1]>=0;}");
        Check.dueNoFault("in a[4096]:bool;cycle{assert a[4095]||true;}");
        Check.dueFault(6, "in a[4096]:bool;cycle{assert a[@4096]||true;}");
        Check.dueFault(1, "in a[@]:bool;cycle{}");
        Check.dueFault(1, "fun f(a@[1]:bool){}cycle{}");
        Check.dueFault(1, "const a@[1]=1;cycle{}");
    }

    /** "(a value for it, or for each element ..)"; "6 a RANGE not within that to which it goes .. at the C's first token". */
    private static void valuesThatAreTold() {
        for (String kind : new String[] {"out", "state"}) {
            for (String array : new String[] {"", "[3]"}) {
                String begin = kind + " x" + array + ":-3..7=";
                Check.dueNoFault(begin + "-3;cycle{}");
                Check.dueNoFault(begin + "7;cycle{}");
                Check.dueFault(6, begin + "@-4;cycle{}");
                Check.dueFault(6, begin + "@8;cycle{}");
                Check.dueFault(6, begin + "@8$");
                Check.dueFault(6, begin + "@-" + GREATEST + ";cycle{}");
                Check.dueFault(1, begin + "@;cycle{}");
                Check.dueNoFault(kind + " x" + array + ":bool=false;cycle{}");
                Check.dueNoFault(kind + " x" + array + ":-" + GREATEST + ".." + GREATEST + "=-" + GREATEST + ";cycle{}");
            }
        }
        Check.dueNoFault("cycle{var x[3]:-3..7=-3;var y[3]:-3..7=7;}");
        Check.dueFault(6, "cycle{var x[3]:-3..7=@-4;}");
        Check.dueFault(6, "cycle{var x[3]:-3..7=@8;}");
        Check.dueFault(1, "in x:0..1@=0;cycle{}");
        VitalTwin each = Check.made("out x[3]:-3..7=-3;cycle{}");
        for (int k = 0; k < 3; k++) {
            Check.due("each element has it", -3, each.output(k));
        }
    }

    /**
     * "INT from the one to the other, both from -2000000000 to 2000000000"; "4 the second C of a RANGE below the first ..
     * (at it)".
     */
    private static void endsOfRanges() {
        String[] kinds = {"in x:%;cycle{}", "fun f(x:%){}cycle{}", "fun f(x:%):%{return x;}cycle{}", "in x[2]:%;cycle{}",
            "fun f(x:%){var y:%=x;}cycle{}"};
        String[] good = {"0..0", "-1..-1", "-1..0", "5..6", "-" + GREATEST + "..-" + GREATEST, GREATEST + ".." + GREATEST,
            "-" + GREATEST + ".." + GREATEST};
        for (String kind : kinds) {
            for (String range : good) {
                Check.dueNoFault(kind.replace("%", range));
            }
        }
        String[] wrong = {"0..@-1", "1..@0", "-1..@-2", GREATEST + "..@1999999999", GREATEST + "..@-" + GREATEST,
            "-1999999999..@-" + GREATEST};
        for (String range : wrong) {
            Check.dueFault(4, "in x:" + range + ";cycle{}");
            Check.dueFault(4, "out x:" + range + "=0;cycle{}");
            Check.dueFault(4, "state x[2]:" + range + "=0;cycle{}");
            Check.dueFault(4, "fun f(x:" + range + "){}cycle{}");
            Check.dueFault(4, "fun f():" + range + "{return 0;}cycle{}");
            Check.dueFault(4, "cycle{var x:" + range + "=0;}");
            Check.dueFault(4, "cycle{var x[2]:" + range + "=0;}");
            Check.dueFault(4, "in x:" + range + "$");
        }
        VitalTwin widest = Check.made("in x:-" + GREATEST + ".." + GREATEST + ";cycle{}");
        Check.due("the lowest", true, widest.input(0, -2000000000));
        Check.due("the highest", true, widest.input(0, 2000000000));
        Check.due("below", false, widest.input(0, -2000000001));
        Check.due("above", false, widest.input(0, 2000000001));
    }

    /**
     * "perhaps with - ahead (of INTS alone)"; "(- ahead of a MEMBER, or of a const that is no INT: at the -; - and true or
     * false: 1 at these)".
     */
    private static void minusOfIntsAlone() {
        Check.due("- of 0", 0, Check.made("const a=-0;cycle{}").symbol(0, 7));
        Check.due("- of a const below 0", 7, Check.made("const a=-7;const c=-a;cycle{}").symbol(1, 7));
        Check.due("- of the lowest", 2000000000, Check.made("const a=-" + GREATEST + ";const c=-a;cycle{}").symbol(1, 7));
        Check.dueFault(5, "const t=true;const a=@-t;cycle{}");
        Check.dueFault(5, "type e=m;const a=@-m;cycle{}");
        Check.dueFault(5, "type e=m;const k=m;const a=@- k$");
        Check.dueFault(1, "const a=-@true;cycle{}");
        Check.dueFault(1, "const a=-@false;cycle{}");
        Check.dueFault(1, "const a=-@-1;cycle{}");
        Check.dueFault(1, "const a=@!true;cycle{}");
        Check.dueFault(3, "const a=-@x;cycle{}");
        Check.dueFault(3, "type e=m;const a=-@e;cycle{}");
        Check.dueFault(1, "const a=-@;cycle{}");
        Check.dueFault(1, "const a=-@");
        // where another type is asked, too
        Check.dueFault(5, "const t=true;out x:bool=@-t;cycle{}");
        Check.dueFault(1, "out x:bool=-@true;cycle{}");
        fault(5, "case(c){@-red:{}}");
        fault(5, "o=clamp(i,@-T,9);");
        fault(5, "for n=@-red to 2{}");
    }

    /**
     * "PARAMETERS being nothing or N : TYPE with commas"; "a ninth parameter (at the name)"; "9 another number of ES .. at
     * the )".
     */
    private static void parametersOrNone() {
        for (int many = 0; many <= 8; many++) {
            StringBuilder parameters = new StringBuilder();
            StringBuilder es = new StringBuilder();
            for (int n = 0; n < many; n++) {
                parameters.append(n == 0 ? "" : ",").append('p').append(n).append(":0..9");
                es.append(n == 0 ? "" : ",").append(n);
            }
            String fun = "fun f(" + parameters + "):0..9{return 1;}";
            VitalTwin twin = Check.made(fun + "cycle{f(" + es + ");assert f(" + es + ")>0;}");
            Check.due("parameters", many, twin.symbol(0, 5));
            String more = many == 0 ? "1" : es + ",1";
            Check.dueFault(9, fun + "cycle{f(" + more + "@);}");
            Check.dueFault(9, fun + "cycle{assert f(" + more + "@)>0;}");
            if (many > 0) {
                String less = es.substring(0, Math.max(0, es.length() - 2));
                Check.dueFault(9, fun + "cycle{f(" + less + "@);}");
                Check.dueFault(9, fun + "cycle{assert f(" + less + "@)>0;}");
                Check.dueFault(1, fun + "cycle{f(" + es + ",@);}");
            }
        }
        String eight = "fun f(a:bool,b:bool,c:bool,d:bool,e:bool,g:bool,h:bool,i:bool";
        Check.dueFault(10, eight + ",@j:bool){}cycle{}");
        Check.dueFault(2, eight + ",@i:bool){}cycle{}");
        Check.dueFault(1, eight + ",@){}cycle{}");
        Check.dueFault(1, "fun f(@,){}cycle{}");
        Check.dueFault(1, "fun f(a@){}cycle{}");
        // more of them than there are parameters go nowhere, but are read
        fault(9, "nil(1,true,red@);");
        fault(5, "nil(1@+true);");
        fault(3, "nil(@unknown);");
    }

    /** "that of a fun with a RESULT ends with return e ; (nothing else does)". */
    private static void returns() {
        Check.dueNoFault("fun f():bool{return true;}cycle{}");
        Check.dueFault(1, "fun f():bool{@}cycle{}");
        Check.dueFault(1, "fun f():bool{if(true){}@}cycle{}");
        Check.dueFault(1, "fun f():bool{return @;}cycle{}");
        Check.dueFault(1, "fun f():bool{return true@}cycle{}");
        Check.dueFault(1, "fun f():bool{return true;@return true;}cycle{}");
        Check.dueFault(1, "fun f():bool{return true;@assert true;}cycle{}");
        Check.dueFault(1, "fun f():bool{if(true){@return true;}return true;}cycle{}");
        Check.dueFault(1, "fun f():bool{for n=1 to 2{@return true;}return true;}cycle{}");
        Check.dueFault(1, "fun f(){@return true;}cycle{}");
        Check.dueFault(1, "fun f(){@return;}cycle{}");
        Check.dueFault(1, "cycle{@return true;}");
    }

    /** "ARMS being any number of C : BLOCK or C .. C : BLOCK, and perhaps else BLOCK behind them". */
    private static void armsOrNone() {
        fine("case(i){}case(c){}");
        fine("case(i){else{}}case(c){else{}}");
        fine("case(i){0:{}}case(c){red:{}}case(c){red:{}green:{}blue:{}else{}}");
        fine("case(i){" + Check.repeat("1:{}", 300) + "else{}}");
        fine("case(s){-" + GREATEST + ":{}" + GREATEST + ":{}-" + GREATEST + ".." + GREATEST + ":{}3..3:{}-3..-3:{}}");
        fault(1, "case(i){else{}@1:{}}");
        fault(1, "case(i){else{}@else{}}");
        fault(1, "case(i){else@:{}}");
        fault(1, "case(i){1@{}}");
        fault(1, "case(i){1:{}@,2:{}}");
        fault(1, "case(i){@:{}}");
        fault(1, "case(i)@");
        fault(1, "case(@){}");
        fault(4, "case(i){3..@2:{}}");
        fault(4, "case(i){-2..@-3:{}}");
        fault(4, "case(i){" + GREATEST + "..@-" + GREATEST + ":{}}");
        fault(4, "case(i){3..@2$");
        fault(4, "case(c){red@..red:{}}");
        fault(4, "case(c){red@..$");
        fault(5, "case(c){@1..2:{}}");
        fault(1, "case(i){1..@:{}}");
        fault(1, "case(i){1..2@..3:{}}");
    }

    /** "if ( e ) BLOCK   if ( e ) BLOCK else BLOCK   if ( e ) BLOCK else and an if again". */
    private static void elsesAndIfs() {
        fine("if(b){}if(b){}else{}if(b){}else if(b){}if(b){}else if(b){}else{}");
        fault(1, "@else{}");
        fault(1, "if(b){}else@");
        fault(1, "if(b){}else{}@else{}");
        fault(1, "if(b){}else @case(i){}");
        fault(1, "if(b)@");
        fault(1, "if(@){}");
        fault(1, "if@{}");
    }

    /** "to below from in for .. (at the second C)". */
    private static void oneRound() {
        String[] good = {"0 to 0", "-1 to -1", "-" + GREATEST + " to -" + GREATEST, GREATEST + " to " + GREATEST, "-1 to 0", "K to K",
            "-K to K"};
        for (String rounds : good) {
            fine("for n=" + rounds + "{}");
        }
        String[] wrong = {"0 to @-1", "1 to @0", "-1 to @-2", GREATEST + " to @1999999999", GREATEST + " to @-" + GREATEST, "6 to @K",
            "K to @-K"};
        for (String rounds : wrong) {
            fault(4, "for n=" + rounds + "{}");
            fault(4, "for n=" + rounds + "$");
        }
        fault(5, "for n=@true to 2{}");
        fault(5, "for n=2 to @true{}");
        fault(1, "for n=1 @2{}");
        fault(1, "for n=1 to @{}");
        fault(1, "for n=1 to 2@;");
        VitalTwin twin = Check.made("state n:0..99=0;out o:0..99=0;cycle{for i=3 to 3{n=min(n+1,99);}o=n;}");
        twin.cycle();
        Check.due("one round", 1, twin.output(0));
    }

    /** "is: sum, or sum, one of < <= > >= == !=, sum". */
    private static void oneComparison() {
        String[] marks = {"<", "<=", ">", ">=", "==", "!="};
        for (String first : marks) {
            for (String second : marks) {
                fault(1, "assert 1" + first + "2@" + second + "3;");
                fault(1, "assert b&&1" + first + "2@" + second + "3;");
                fault(1, "assert b||1" + first + "2@" + second + "b||b;");
                fine("assert 1" + first + "2&&3" + second + "4||5" + first + "6;");
            }
            fine("assert (1" + first + "2)==(3" + first + "4);assert !(1" + first + "2)!=b;");
            // the e ends at the second one, and what is asked of it is asked ahead of that
            fault(5, "o=@1" + first + "2<3;");
        }
    }

    /**
     * "NAMES are visible from behind their declaration's ; (a type's and its MEMBERS' at once, a for's, a parameter's from
     * its BLOCK's {)".
     */
    private static void visibleFromBehind() {
        Check.dueFault(3, "const a=@a;cycle{}");
        Check.dueFault(3, "const a=1;const d=-@d;cycle{}");
        Check.dueNoFault("const a=1;const d=a;cycle{}");
        Check.dueFault(3, "in a[@a]:bool;cycle{}");
        Check.dueFault(3, "in a:@a;cycle{}");
        Check.dueFault(3, "out a:0..1=@a;cycle{}");
        Check.dueFault(3, "state a[@a]:0..1=0;cycle{}");
        Check.dueFault(2, "type a=@a;cycle{}");
        Check.dueFault(2, "type a=d,@d;cycle{}");
        Check.dueNoFault("type a=d;const k=d;in x:a;cycle{}");
        Check.dueFault(3, "in x:@a;type a=d;cycle{}");
        fault(3, "var v:0..9=@v;");
        fault(3, "var v:0..9=1+@v;");
        fault(3, "var v[@v]:0..9=1;");
        fault(3, "var v[2]:0..9=@v;");
        fault(3, "@v=1;var v:0..9=1;");
        fine("var v:0..9=1;v=v;");
        fault(3, "for n=@n to 2{}");
        fault(3, "for n=1 to @n{}");
        fine("for n=1 to 2{assert n>0;}");
        Check.dueFault(3, "fun f(a:0..1,d:@a..1){}cycle{}");
        Check.dueFault(3, "fun f(a:0..1):@a{return a;}cycle{}");
        Check.dueNoFault("fun f(a:0..1):0..1{return a;}cycle{}");
        Check.dueFault(3, "fun f(){@f();}cycle{}");
        Check.dueFault(3, "fun f():bool{return @f();}cycle{}");
        Check.dueNoFault("fun f(){}fun g(){f();}cycle{f();}");
        Check.dueFault(3, "fun f(){@g();}fun g(){}cycle{}");
        Check.dueFault(3, "fun f(){assert @x;}in x:bool;cycle{}");
    }

    /**
     * "to the end of their BLOCK (of const, type, MEMBERS, in, out, state, fun to the end; .. a parameter's BLOCK is its
     * fun's, that of for its own)".
     */
    private static void visibleToTheEnd() {
        fault(3, "if(b){var v:bool=b;}f=@v;");
        fault(3, "if(b){var v:bool=b;}else{f=@v;}");
        fault(3, "if(b){var v:bool=b;}else if(@v){}");
        fault(3, "if(b){}else{var v:bool=b;}f=@v;");
        fault(3, "case(i){1:{var v:bool=b;}2:{f=@v;}}");
        fault(3, "case(i){1:{var v:bool=b;}else{f=@v;}}");
        fault(3, "case(i){else{var v:bool=b;}}f=@v;");
        fault(3, "for n=1 to 2{var v:bool=b;}f=@v;");
        fault(3, "for n=1 to 2{}o=@n;");
        fault(3, "for n=1 to 2{for m=1 to 2{}o=@m;}");
        fine("for n=1 to 2{for m=1 to 2{o=m;}o=n;if(b){var v:0..9=n;if(b){o=v;}o=v;}}");
        // told again when the BLOCK has ended
        fine("if(b){var v:bool=b;}else{var v:bool=b;}var v:bool=b;");
        fine("case(i){1:{var v:bool=b;}2:{var v:bool=b;}else{var v:bool=b;}}for v=1 to 2{}for v=1 to 2{}");
        Check.dueFault(3, "fun f(a:bool){}cycle{assert @a;}");
        Check.dueFault(3, "fun f(a:bool){}fun g(){assert @a;}cycle{}");
        Check.dueFault(3, "fun f(){var v:bool=true;}cycle{assert @v;}");
        Check.dueNoFault("fun f(a:bool){var v:bool=a;}fun g(a:bool){var v:bool=a;}in a:bool;in v:bool;cycle{assert a||v;}");
        Check.dueNoFault("const k=1;type t=m;in x:bool;out y:bool=true;state z:bool=true;fun f(){}"
                + "fun g(){if(x){y=z;f();var v:t=m;assert k>0;}}cycle{if(x){for n=k to k{y=z;f();g();var v:t=m;}}}");
    }

    /** "An N that is visible is not told again, nor a parameter's name twice"; "2 a NAME that is visible is told". */
    private static void notToldAgain() {
        String[] told = {"const a=1;", "type a=d;", "type d=a;", "type d=e,a;", "in a:bool;", "out a:bool=true;", "state a:bool=true;",
            "fun a(){}"};
        String[] again = {"const @a=2;", "type @a=y;", "type z=@a;", "type z=y,@a;", "in @a:bool;", "in @a[2]:bool;", "out @a:bool=true;",
            "state @a:bool=true;", "fun @a(){}", "fun z(@a:bool){}", "fun z(y:bool,@a:bool){}", "fun z(){var @a:bool=true;}",
            "fun z(){var @a[2]:bool=true;}", "fun z(){for @a=1 to 2{}}", "fun z(){if(true){var @a:bool=true;}}"};
        for (String first : told) {
            for (String second : again) {
                Check.dueFault(2, first + second + "cycle{}");
            }
        }
        Check.dueFault(2, "fun f(a:bool,@a:bool){}cycle{}");
        Check.dueFault(2, "fun f(a:bool,d:bool,@a:0..1){}cycle{}");
        Check.dueFault(2, "fun f(a:bool){var @a:bool=true;}cycle{}");
        Check.dueFault(2, "fun f(a:bool){for @a=1 to 2{}}cycle{}");
        fault(2, "var v:bool=b;var @v:bool=b;");
        fault(2, "var v:bool=b;if(b){var @v:bool=b;}");
        fault(2, "for n=1 to 2{var @n:bool=b;}");
        fault(2, "for n=1 to 2{for @n=1 to 2{}}");
        fault(2, "var n:bool=b;for @n=1 to 2{}");
        // asked at the name, ahead of all that is behind it
        Check.dueFault(2, "const a=1;const @a$");
        Check.dueFault(2, "in a:bool;in @a[0]:1..0;cycle{}");
    }

    /** "(a fun's own name may stand within it as another thing's: it is not visible there)". */
    private static void theFunsOwnName() {
        Check.dueNoFault("fun f(f:bool){assert f;}cycle{f(true);}");
        Check.dueNoFault("fun f(){var f:bool=true;assert f;}cycle{f();}");
        Check.dueNoFault("fun f(){for f=1 to 2{assert f>0;}}cycle{f();}");
        Check.dueNoFault("fun f():0..9{var f[2]:0..9=3;return f[1];}cycle{assert f()==3;}");
        Check.dueFault(2, "fun f(f:bool,@f:bool){}cycle{}");
        Check.dueFault(2, "fun f(f:bool){var @f:bool=f;}cycle{}");
        Check.dueFault(2, "fun f(f:bool){}cycle{var @f:bool=true;}");
        Check.dueFault(3, "fun f(f:bool){@f(true);}cycle{}");
        VitalTwin twin = Check.made("fun f(f:bool){assert f;}cycle{f(true);}");
        Check.due("the fun", 4, twin.symbol(0, 0));
        Check.due("its parameter", 5, twin.symbol(1, 0));
        Check.due("the call is one of the fun", 1, twin.cycle());
    }

    /** "case takes an INT, or an ENUM (then C is of it, and no ..)". */
    private static void casesOfIntsAndEnums() {
        fine("case(i){K:{}}case(c){green:{}}case(only){only:{}}case(i+1){1:{}}");
        fault(5, "case(@b){}");
        fault(5, "case(@i>1){}");
        fault(5, "case(@T$");
        fault(5, "case(i){@red:{}}");
        fault(5, "case(i){@true:{}}");
        fault(5, "case(i){@T:{}}");
        fault(5, "case(i){1..@red:{}}");
        fault(5, "case(c){@0:{}}");
        fault(5, "case(c){@K:{}}");
        fault(5, "case(c){@only:{}}");
        fault(5, "case(c){@only..only:{}}");
        fault(5, "case(c){@false:{}}");
        fault(3, "case(c){@c:{}}");
        fault(3, "case(i){@i:{}}");
        fault(3, "case(c){@Col:{}}");
    }
}
