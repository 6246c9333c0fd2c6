/** The edges that the FAULTS of Terms 2 name, what is just no fault among them; @ marks the place of a fault. */
public final class FaultEdgeTest {
    private static final String BEGIN = "const K=5;const T=true;type Col=red,green,blue;type One=only;in i:0..9;in b:bool;"
            + "in ia[3]:0..9;out o:0..9=0;out oa[3]:0..9=0;state s:-9..9=0;state f:bool=false;state c:Col=red;"
            + "state big:-2000000000..2000000000=0;in lo:-2000000000..0;in hi:0..2000000000;"
            + "fun nil(){}fun inc(x:0..8):1..9{return x+1;}fun both(x:0..9,y:bool):bool{return y&&x>0;}";

    public static void main(String[] args) {
        kindAndPlace();
        theFirstIsTold();
        theLeastFirst();
        askedAheadOfTheTokenBehind();
        namesOfSomethingElse();
        nothingIsAskedBehindAC();
        ordersOfClamp();
        typesOfOperators();
        funsWithoutResult();
        rangesThatGoSomewhere();
        indexes();
        byZero();
        beyondTheGreatest();
        fallsJustWithin();
        sixtyFourWithinOneAnother();
        whatHoldsWhat();
        sixteenCalls();
        fourHundredSymbols();
        mostInstructions();
        mostCells();
        greatestBound();
        theEndComesLast();
        Check.end();
    }

    private static void fine(String statements) {
        Check.dueNoFault(BEGIN + "cycle{" + statements + "}");
    }

    private static void fault(int kind, String marked) {
        Check.dueFault(kind, BEGIN + "cycle{" + marked + "}");
    }

    /** "FAULTS are told as kind + 16 * place (signs from 0 on)". */
    private static void kindAndPlace() {
        VitalTwin twin = new VitalTwin(16);
        Check.due("1 at 0", 1, Check.compile(twin, "x"));
        Check.due("1 at 1", 17, Check.compile(twin, " x"));
        Check.due("11 at 29", 11 + 16 * 29, Check.compile(twin, "cycle{for i=1 to 99999{}}    "));
        Check.due("line ends count", 1 + 16 * 3, Check.compile(twin, "\n\n\nx"));
        Check.due("comments count", 1 + 16 * 5, Check.compile(twin, "//ab\nx"));
        Check.due("zeros that were fed do not", 5, twin.feed(0x6300790063006cL, 0x65));
        Check.due("the end", 1 + 16 * 5, twin.compile());
    }

    /** "Reading goes from left to right; the first one that it comes to is told". */
    private static void theFirstIsTold() {
        fault(6, "o=@10;o=x;");
        fault(3, "o=@x;o=10;");
        fault(5, "o=1@+b+x;");
        fault(3, "o=1+@x+b;");
        fault(8, "big=2000000000@+1+b;");
        fault(7, "big=1@/0+b;");
        fault(6, "o=inc(@9)+b;");
        fault(5, "oa[@b]=x;");
        fault(6, "oa[@3]=b;");
        fault(4, "var v:1..@0=x;");
        fault(5, "f=b@?1:true;");
        fault(3, "f=b?1:@x;");
        Check.dueFault(4, "in a[@0]:1..0;in a:x;cycle{");
        Check.dueFault(1, "fun f():bool{@}cycle{x=1;}");
        // what is told at the end comes behind all
        Check.dueFault(3, "in a[4096]:bool;in d:bool;cycle{@x=1;}");
    }

    /** "a token's own ones at it, the least first". */
    private static void theLeastFirst() {
        String full = symbols(400);
        Check.dueFault(1, full + "const @1=1;cycle{}");
        Check.dueFault(2, full + "const @c0=1;cycle{}");
        Check.dueFault(10, full + "const @more=1;cycle{}");
        Check.dueFault(2, full + "fun @c399(){}cycle{}");
        // a call that is too deep: 3, 5, 10
        String funs = chain(16, ":0..1", "return ", "return 1;");
        Check.dueFault(3, funs + "fun z(){@f16=1;}cycle{}");
        Check.dueFault(3, funs + "fun z(){assert @f16>0;}cycle{}");
        Check.dueFault(10, funs + "fun z(){assert @f16()>0;}cycle{}");
        Check.dueFault(5, chain(16, "", "", "") + "fun z(){assert @f16();}cycle{}");
        Check.dueFault(10, chain(16, "", "", "") + "fun z(){@f16();}cycle{}");
        // of an operator: 5, 7, 8
        fault(5, "big=b@/0;");
        fault(5, "big=1@%false;");
        fault(7, "big=2000000000@/i;");
        fault(5, "big=b@*2000000000;");
        // of an e: 5, 6; of a C: 5, 4 and 5, 6
        fault(5, "o=@c;");
        fault(5, "c=@99;");
        fault(5, "for n=9 to @false{}");
        Check.dueFault(5, "const t=true;in a[@t]:bool;cycle{}");
        Check.dueFault(5, "out x:1..2=@false;cycle{}");
    }

    /**
     * "what is asked of an e when it was read to its end, of an operator's when its last one was (ahead of looking at the
     * token behind)".
     */
    private static void askedAheadOfTheTokenBehind() {
        String[] behind = {"$", "99999999999", "abcdefghijklmnopqrstuvw", "else", "", "@"};
        for (String token : behind) {
            String rest = " " + (token.equals("@") ? "\"" : token);
            Check.dueFault(5, BEGIN + "cycle{o=@b" + rest);
            Check.dueFault(6, BEGIN + "cycle{o=@10" + rest);
            Check.dueFault(5, BEGIN + "cycle{o=1@+b" + rest);
            Check.dueFault(5, BEGIN + "cycle{f=@-b" + rest);
            Check.dueFault(5, BEGIN + "cycle{f=b@&&1" + rest);
            Check.dueFault(5, BEGIN + "cycle{f=b@?b:1" + rest);
            Check.dueFault(5, BEGIN + "cycle{f=@min(b,1" + rest);
            Check.dueFault(5, BEGIN + "cycle{f=@abs(b" + rest);
            Check.dueFault(5, BEGIN + "cycle{f=@clamp(b" + rest);
            Check.dueFault(4, BEGIN + "cycle{o=clamp(i,2,@1" + rest);
            Check.dueFault(7, BEGIN + "cycle{o=1@/i" + rest);
            Check.dueFault(8, BEGIN + "cycle{o=hi@+1" + rest);
            Check.dueFault(5, BEGIN + "cycle{assert @1" + rest);
            Check.dueFault(5, BEGIN + "cycle{if(@1" + rest);
            Check.dueFault(5, BEGIN + "cycle{case(@b" + rest);
            Check.dueFault(5, BEGIN + "cycle{oa[@b" + rest);
            Check.dueFault(6, BEGIN + "cycle{oa[@3" + rest);
            Check.dueFault(6, BEGIN + "cycle{inc(@9" + rest);
            Check.dueFault(5, BEGIN + "cycle{both(1,@1" + rest);
            Check.dueFault(3, BEGIN + "cycle{o=@ia" + rest);
            Check.dueFault(3, BEGIN + "cycle{@oa" + rest);
            Check.dueFault(3, BEGIN + "cycle{@nil" + rest);
            Check.dueFault(3, BEGIN + "cycle{o=@inc" + rest);
            Check.dueFault(4, "in x:1..@0" + rest);
            Check.dueFault(4, "in x[@0" + rest);
            Check.dueFault(5, "out x:0..1=@true" + rest);
            Check.dueFault(6, "out x:0..1=@2" + rest);
            Check.dueFault(5, "fun f():bool{return @1" + rest);
            Check.dueFault(6, "fun f():0..1{return @2" + rest);
            // but a token that is none is told where one has to come
            Check.dueFault(1, BEGIN + "cycle{o=1+ @" + rest.substring(1));
            Check.dueFault(1, BEGIN + "cycle{f=b?b @" + rest.substring(1));
            Check.dueFault(1, BEGIN + "cycle{f=min(b @" + rest.substring(1));
            Check.dueFault(1, BEGIN + "cycle{o=i @" + rest.substring(1));
            Check.dueFault(1, BEGIN + "cycle{o @" + rest.substring(1));
        }
        // the ? is asked when its last e was read, and not ahead of that
        fault(5, "f=1@?b:b;");
        fault(3, "f=1?@x:b;");
        fault(3, "f=1?b:@x;");
        fault(5, "f=1?1@+b:b;");
        // so min and max
        fault(3, "o=min(b,@x);");
        fault(5, "o=min(b,1@+b);");
        // those of an operator ahead of those of one that has it as its last one
        fault(5, "f=1@<b<2;");
        fault(5, "f=1+(b@*2);");
        fault(5, "f=b&&1@<b;");
        fault(8, "f=b&&hi@*2;");
    }

    /**
     * "3 .. of something else than can stand there (a const, in, for that is assigned; a fun without ( ; an array without
     * [, and what is none with ( or [ ..)".
     */
    private static void namesOfSomethingElse() {
        String[] never = {"K", "T", "red", "Col", "i", "ia", "x"};
        String[] behind = {"=1;", "[0]=1;", "(1);", ";", "$", "+1;", ""};
        for (String name : never) {
            for (String rest : behind) {
                Check.dueFault(3, BEGIN + "cycle{@" + name + rest);
            }
        }
        for (String rest : behind) {
            Check.dueFault(3, BEGIN + "cycle{for n=1 to 2{@n" + rest);
        }
        for (String rest : new String[] {"=1;", ";", "[0]=1;", "$", ""}) {
            Check.dueFault(3, BEGIN + "cycle{@nil" + rest);
            Check.dueFault(3, BEGIN + "cycle{@inc" + rest);
            Check.dueFault(3, BEGIN + "cycle{f=@nil" + rest);
            Check.dueFault(3, BEGIN + "cycle{f=@inc" + rest);
        }
        for (String rest : new String[] {"=1;", ";", "(0);", "$", ""}) {
            Check.dueFault(3, BEGIN + "cycle{@oa" + rest);
            Check.dueFault(3, BEGIN + "cycle{f=@oa" + rest);
        }
        for (String name : new String[] {"o", "s"}) {
            Check.dueFault(3, BEGIN + "cycle{@" + name + "(1);");
            Check.dueFault(3, BEGIN + "cycle{@" + name + "[0]=1;");
            Check.dueFault(1, BEGIN + "cycle{" + name + "@;");
            Check.dueFault(1, BEGIN + "cycle{" + name + "@");
        }
        for (String name : new String[] {"K", "T", "red", "i", "o", "s"}) {
            Check.dueFault(3, BEGIN + "cycle{f=@" + name + "(1);");
            Check.dueFault(3, BEGIN + "cycle{f=@" + name + "[0];");
        }
        fault(3, "f=@Col;");
        fault(3, "f=@Col(1);");
        fault(3, "f=@x(1);");
        Check.dueFault(3, "fun g(p:bool){@p();}cycle{}");
        Check.dueFault(3, "fun g(p:bool){@p[0]=true;}cycle{}");
        Check.dueNoFault("fun g(p:bool){p=true;}cycle{}");
    }

    /** "(nothing is asked so behind a C)": what can't come there is 1 at it. */
    private static void nothingIsAskedBehindAC() {
        Check.dueFault(1, "const k=1;const a=k@(1);cycle{}");
        Check.dueFault(1, "const k=1;const a=k@[1];cycle{}");
        Check.dueFault(1, "type t=m;const a=m@(1);cycle{}");
        Check.dueFault(1, "const k=1;in a:0..k@[;cycle{}");
        Check.dueFault(1, "const k=1;in a[k@[1]]:bool;cycle{}");
        fault(1, "for n=K@( to 2{}");
        fault(1, "case(i){K@[:{}}");
        fault(1, "case(c){red@(:{}}");
        fault(1, "o=clamp(i,K@(,9);");
    }

    /** "clamp's likewise (at its second C)". */
    private static void ordersOfClamp() {
        fine("o=clamp(s,0,0);o=clamp(s,9,9);o=clamp(s,K,K);s=clamp(i,-9,-9);");
        fault(4, "o=clamp(s,1,@0);");
        fault(4, "s=clamp(i,-1,@-2);");
        fault(4, "s=clamp(i,2000000000,@-2000000000);");
        fault(4, "s=clamp(i,6,@K);");
        fault(5, "s=clamp(i,@red,1);");
        fault(5, "s=clamp(i,1,@T);");
        fault(3, "s=clamp(i,@i,9);");
        fault(1, "s=clamp(i,0,9@+1);");
        fault(1, "s=clamp(i,@(0),9);");
    }

    /** "5 a wrong type: at an operator (the ? too; min, max, abs, clamp are such, at the word ..)". */
    private static void typesOfOperators() {
        String[] ints = {"+", "-", "*", "/", "%", "<", "<=", ">", ">="};
        String[] bools = {"&&", "||"};
        String[] values = {"1", "b", "c", "only"};
        for (String first : values) {
            for (String second : values) {
                boolean bothInts = first.equals("1") && second.equals("1");
                boolean bothBools = first.equals("b") && second.equals("b");
                for (String mark : ints) {
                    if (!bothInts) {
                        fault(5, "assert " + first + "@" + mark + second + ";");
                    }
                }
                for (String mark : bools) {
                    if (!bothBools) {
                        fault(5, "assert " + first + "@" + mark + second + ";");
                    }
                }
                for (String mark : new String[] {"==", "!="}) {
                    if (first.equals(second)) {
                        fine("assert " + first + mark + second + ";");
                    } else {
                        fault(5, "assert " + first + "@" + mark + second + ";");
                    }
                }
                for (String word : new String[] {"min", "max"}) {
                    if (!bothInts) {
                        fault(5, "assert @" + word + "(" + first + "," + second + ")>0;");
                    }
                }
                if (!first.equals(second)) {
                    fault(5, "assert (b@?" + first + ":" + second + ")==" + first + ";");
                } else {
                    fine("assert (b?" + first + ":" + second + ")==" + first + ";");
                }
            }
            if (!first.equals("1")) {
                fault(5, "assert @-" + first + ">0;");
                fault(5, "assert @abs(" + first + ")>0;");
                fault(5, "assert @clamp(" + first + ",0,1)>0;");
            }
            if (!first.equals("b")) {
                fault(5, "assert @!" + first + ";");
                fault(5, "assert " + first + "@?b:b;");
                fault(5, "assert @" + first + ";");
                fault(5, "if(@" + first + "){}");
            }
        }
    }

    /** "a fun without RESULT in an e at its name (as soon as that)". */
    private static void funsWithoutResult() {
        fault(5, "o=@nil();");
        fault(5, "o=@nil(1,2,x$");
        fault(5, "o=1+@nil()+x;");
        fault(5, "assert @nil();");
        fault(5, "inc(@nil());");
        fault(3, "o=@nil;");
        fine("nil();inc(1);both(1,b);");
    }

    /** "6 a RANGE not within that to which it goes (a variable, element, parameter, RESULT)": each end, and one beyond. */
    private static void rangesThatGoSomewhere() {
        String[] within = {"-3", "7", "a", "a+1", "a-1", "min(w,7)", "clamp(w,-3,7)"};
        String[] beyond = {"-4", "8", "w", "a+2", "a-2", "min(w,8)", "max(w,0)", "b?7:8", "b?-4:7", "2000000000", "-2000000000"};
        String begin = "in a:-2..6;in w:-3..8;in b:bool;out o:-3..7=0;out e[2]:-3..7=0;state s:-3..7=0;fun f(p:-3..7){}";
        String[] places = {"o=%;", "s=%;", "e[1]=%;", "f(%);", "var v:-3..7=%;"};
        for (String place : places) {
            for (String e : within) {
                Check.dueNoFault(begin + "cycle{" + place.replace("%", e) + "}");
            }
            for (String e : beyond) {
                Check.dueFault(6, begin + "cycle{" + place.replace("%", "@" + e) + "}");
            }
        }
        for (String e : within) {
            Check.dueNoFault(begin + "fun g():-3..7{return " + e + ";}cycle{}");
            Check.dueNoFault(begin + "fun g(q:-3..7){q=" + e + ";var v:-3..7=0;v=" + e + ";var u[2]:-3..7=0;u[0]=" + e + ";}cycle{}");
        }
        for (String e : beyond) {
            Check.dueFault(6, begin + "fun g():-3..7{return @" + e + ";}cycle{}");
            Check.dueFault(6, begin + "fun g(q:-3..7){q=@" + e + ";}cycle{}");
            Check.dueFault(6, begin + "cycle{var v:-3..7=0;v=@" + e + ";}");
            Check.dueFault(6, begin + "cycle{var v[2]:-3..7=0;v[0]=@" + e + ";}");
        }
        // the first token of an e may be a ( or one in front
        fault(6, "o=@(10);");
        fault(6, "o=@-(1);");
        fault(6, "o=@(1)+9;");
        // an ARM's C, a for's and an e that is compared go nowhere
        fine("case(i){99:{}-99..-98:{}}assert i>99;for n=90 to 99{}");
    }

    /** "or an index not within its array". */
    private static void indexes() {
        String begin = "in n:-1..2;in m:0..3;in k:0..2;in a[3]:0..9;out o[3]:0..9=0;";
        for (String index : new String[] {"0", "2", "k", "m/2", "m%3", "clamp(n,0,2)", "max(n,0)", "min(m,2)"}) {
            Check.dueNoFault(begin + "cycle{o[" + index + "]=a[" + index + "];}");
        }
        for (String index : new String[] {"-1", "3", "n", "m", "k+1", "k-1", "max(m,0)", "2000000000", "-2000000000"}) {
            Check.dueFault(6, begin + "cycle{o[@" + index + "]=1;}");
            Check.dueFault(6, begin + "cycle{o[0]=a[@" + index + "];}");
            Check.dueFault(6, begin + "cycle{var v[3]:bool=true;v[@" + index + "]=true;}");
            Check.dueFault(6, begin + "cycle{var v[3]:bool=true;assert v[@" + index + "];}");
        }
        Check.dueNoFault("in a[1]:bool;cycle{assert a[0];}");
        Check.dueFault(6, "in k:0..1;in a[1]:bool;cycle{assert a[@k];}");
    }

    /** "7 / or % by what may be 0, at it". */
    private static void byZero() {
        String begin = "in a:0..0;in d:-1..0;in e:0..1;in g:-1..1;in p:1..9;in n:-9..-1;in u:1..1;in w:-1..-1;"
                + "in z:-2000000000..2000000000;state s:-2000000000..2000000000=0;";
        for (String mark : new String[] {"/", "%"}) {
            for (String by : new String[] {"0", "a", "d", "e", "g", "z", "(p-1)", "(n+1)", "(p+n)", "(p/2)", "(p%2)", "abs(z)", "-a", "min(p,0)",
                "(p*0)"}) {
                Check.dueFault(7, begin + "cycle{s=9@" + mark + by + ";}");
                Check.dueFault(7, begin + "cycle{s=z@" + mark + by + ";}");
            }
            for (String by : new String[] {"1", "-1", "p", "n", "u", "w", "(p+1)", "(n-1)", "2000000000", "-2000000000", "max(z,1)",
                "clamp(z,-9,-1)", "abs(n)", "-p", "(p*p)"}) {
                Check.dueNoFault(begin + "cycle{s=9" + mark + by + ";s=z" + mark + by + ";s=0" + mark + by + ";}");
            }
        }
    }

    /** "8 a RANGE beyond -2000000000 .. 2000000000, at the operator". */
    private static void beyondTheGreatest() {
        fault(8, "big=2000000000@+1;");
        fault(8, "big=1@+2000000000;");
        fault(8, "big=hi@+1;");
        fault(8, "big=hi@+i;");
        fault(8, "big=hi@-(-1);");
        fault(8, "big=lo@-1;");
        fault(8, "big=lo@-i;");
        fault(8, "big=lo@+(-1);");
        fault(8, "big=-2000000000@-1;");
        fault(8, "big=0-big@-1;");
        fault(8, "big=hi@-lo;");
        fault(8, "big=lo@-hi;");
        fault(8, "big=hi@*2;");
        fault(8, "big=1000000001@*2;");
        fault(8, "big=-1000000001@*2;");
        fault(8, "big=lo@*2;");
        fault(8, "big=44722@*44722;");
        fault(8, "big=-44722@*44722;");
        fault(8, "big=big@*big;");
        fault(8, "big=big@*i;");
        fault(8, "big=hi@+1-1;");
        fault(8, "f=hi@+1>0;");
    }

    /** The same, just not beyond. */
    private static void fallsJustWithin() {
        fine("big=2000000000+0;big=1999999999+1;big=hi+0;big=lo+0;big=hi-0;big=lo-0;big=hi+lo;big=-1999999999-1;big=0-big;big=0-hi;");
        fine("big=big*1;big=big*-1;big=hi*-1;big=lo*-1;big=1000000000*2;big=-1000000000*2;big=-1000000000*-2;big=44721*44721;");
        fine("big=-44721*44721;big=-lo;big=-hi;big=-big;big=abs(big);big=abs(lo);big=big/1;big=big/-1;big=lo/-1;big=big%-2000000000;");
        fine("big=hi/2*2;big=max(big,lo);big=min(big,hi);big=b?lo:hi;big=clamp(big,-2000000000,2000000000);");
    }

    /** "10 too much: a ( [ { ? or a - or ! in front that would be the 65th within one another". */
    private static void sixtyFourWithinOneAnother() {
        // cycle's { is the first; of each: what opens one, with the place of the fault if it is one too many, and what closes it
        String[][] ofOne = {{"@(", ")"}, {"@-", ""}, {"abs@(", ")"}, {"min@(1,", ")"}, {"max@(1,", ")"}, {"clamp@(", ",0,2)"},
            {"ia@[0*", "]"}, {"inc@(0*", ")"}, {"i>1@?1:", ""}};
        for (String[] one : ofOne) {
            String open = one[0].replace("@", "");
            fine("big=" + Check.repeat(open, 63) + "1" + Check.repeat(one[1], 63) + ";");
            fault(10, "big=" + Check.repeat(open, 63) + one[0] + "1");
        }
        fine("big=" + Check.repeat("(-", 31) + "(1" + Check.repeat(")", 32) + ";");
        fault(10, "big=" + Check.repeat("(-", 31) + "(@-1");
        fault(10, "big=-" + Check.repeat("(-", 31) + "@(1");
        fine("f=" + Check.repeat("!", 63) + "b;");
        fault(10, "f=" + Check.repeat("!", 63) + "@!b;");
        fault(10, "f=" + Check.repeat("!", 63) + "@(b);");
        fault(10, "f=" + Check.repeat("!", 63) + "both@(1,b);");
        fault(10, "o=" + Check.repeat("-", 63) + "ia@[0];");
        fine(Check.repeat("if(b){", 63) + Check.repeat("}", 63));
        fault(10, Check.repeat("if(b){", 63) + "if@(b){");
        fault(10, Check.repeat("if(b){", 63) + "for n=1 to 2@{");
        fault(10, Check.repeat("if(b){", 63) + "case@(i){");
        fault(10, Check.repeat("if(b){", 62) + "case(i){1:@{");
        fault(10, Check.repeat("if(b){", 63) + "oa@[0]=1;");
        fault(10, Check.repeat("if(b){", 63) + "nil@();");
        fault(10, Check.repeat("if(b){", 63) + "var v@[1]:bool=b;");
        fault(10, Check.repeat("if(b){", 63) + "f=b@?b:b;");
        fault(10, Check.repeat("if(b){", 63) + "big=@-1;");
        fine(Check.repeat("if(b){", 62) + "case(i){}f=b?b:b;oa[0]=-1+3;nil();" + Check.repeat("}", 62));
        // so in a fun
        Check.dueNoFault("fun g(){assert " + Check.repeat("(", 63) + "true" + Check.repeat(")", 63) + ";}cycle{}");
        Check.dueFault(10, "fun g(){assert " + Check.repeat("(", 63) + "@(true");
    }

    /** "(each holds what stands behind it, to its end, a ? its whole e)". */
    private static void whatHoldsWhat() {
        String deep = Check.repeat("(", 63) + "1" + Check.repeat(")", 63);
        fine("big=" + deep + "+" + deep + ";big=" + deep + ";");
        fine("f=" + Check.repeat("!", 63) + "b&&" + Check.repeat("!", 63) + "b==" + Check.repeat("!", 63) + "b;");
        fine("big=" + Check.repeat("-", 63) + "1*" + Check.repeat("-", 63) + "1;");
        // what stands ahead of a ? is not within it; both that stand behind it are
        fine("big=" + deep + ">0?1:2;");
        fault(10, "big=b?" + Check.repeat("(", 62) + "@(1");
        String almost = Check.repeat("(", 62) + "1" + Check.repeat(")", 62);
        fine("big=b?" + almost + ":" + almost + ";");
        fault(10, "big=b?1:" + Check.repeat("(", 62) + "@(1");
        fine("big=(b?1:2)+" + Check.repeat("(", 63) + "1" + Check.repeat(")", 63) + ";");
        fine("big=" + Check.repeat("b?1:", 63) + "2;");
        fault(10, "big=" + Check.repeat("b?1:", 63) + "b@?1:2;");
        fine("big=" + Check.repeat("b?", 63) + "1" + Check.repeat(":2", 63) + ";");
        fault(10, "big=" + Check.repeat("b?", 63) + "b@?1:2");
        // - of a sum's second holds that alone; an else's if stands within nothing more
        fine("big=1" + Check.repeat("-1", 300) + ";big=1" + Check.repeat("+-1", 300) + ";");
        fine("if(b){}" + Check.repeat("else if(b){}", 200));
        fine(Check.repeat("if(b){}", 200) + Check.repeat("f=b?b:b;", 200));
        // the - of a C is none in front
        fine(Check.repeat("if(b){", 63) + "var v:-1..-1=K-6;" + Check.repeat("}", 63));
        fine(Check.repeat("if(b){", 62) + "for n=-1 to -1{}" + Check.repeat("}", 62));
        fine(Check.repeat("if(b){", 62) + "s=clamp(i,-1,-1);" + Check.repeat("}", 62));
    }

    private static String chain(int many, String result, String word, String first) {
        StringBuilder made = new StringBuilder("fun f1()" + result + "{" + first + "}");
        for (int n = 2; n <= many; n++) {
            made.append("fun f").append(n).append("()").append(result).append('{').append(word).append('f').append(n - 1).append("();}");
        }
        return made.toString();
    }

    /**
     * "a call by which calls would be 17 within one another (at the name; a call in cycle is one, those in a fun stand
     * within a call of it)".
     */
    private static void sixteenCalls() {
        String funs = chain(16, "", "", "");
        VitalTwin twin = Check.made(funs + "cycle{f16();}");
        Check.due("sixteen within one another", 1, twin.cycle());
        Check.dueFault(10, funs + "fun f17(){@f16();}cycle{}");
        Check.dueFault(10, funs + "fun f17(){if(true){for n=1 to 2{@f16();}}}cycle{}");
        Check.dueNoFault(funs + "fun f17(){f15();f15();f1();}cycle{f17();f16();f17();}");
        Check.dueFault(10, funs + "fun g(){f15();}fun h(){f1();@g();}cycle{}");
        // the deepest counts, wherever it stands
        Check.dueFault(10, funs + "fun g(){f1();f15();f1();}fun h(){@g();}cycle{}");
        String results = chain(16, ":0..1", "return ", "return 1;");
        Check.dueNoFault(results + "cycle{assert f16()>0&&f16()+f16()==2;}");
        Check.dueFault(10, results + "fun z():0..1{return @f16();}cycle{}");
        Check.dueFault(10, results + "fun z():0..1{assert f15()>0;return 0*@f16();}cycle{}");
    }

    private static String symbols(int many) {
        StringBuilder made = new StringBuilder();
        for (int n = 0; n < many; n++) {
            made.append("const c").append(n).append("=1;");
        }
        return made.toString();
    }

    /** "the 401st SYMBOL .. (at the name)". */
    private static void fourHundredSymbols() {
        String full = symbols(400);
        String almost = symbols(399);
        VitalTwin twin = Check.made(full + "cycle{}");
        Check.due("SYMBOLS", 400, twin.count(1));
        Check.due("the last one", 0, twin.symbol(399, 0));
        Check.due("none behind it", -1, twin.symbol(400, 0));
        String[] more = {"const @z=1;", "type @z=y;", "in @z:bool;", "out @z:bool=true;", "state @z:bool=true;", "fun @z(){}"};
        for (String one : more) {
            Check.dueFault(10, full + one + "cycle{}");
        }
        Check.dueFault(10, full + "cycle{var @z:bool=true;}");
        Check.dueFault(10, full + "cycle{var @z[2]:bool=true;}");
        Check.dueFault(10, full + "cycle{for @z=1 to 2{}}");
        Check.dueFault(10, almost + "type z=@y;cycle{}");
        Check.dueFault(10, almost + "fun z(@y:bool){}cycle{}");
        Check.dueFault(10, almost + "fun z(){var @y:bool=true;}cycle{}");
        Check.dueNoFault(almost + "fun z(){}cycle{z();}");
        Check.dueNoFault(almost + "cycle{for z=1 to 2{}}");
        // one that is visible no more still counts
        Check.dueFault(10, almost + "cycle{if(true){var y:bool=true;}if(true){var @x:bool=true;}}");
        // an array is one, whatever its length
        Check.dueNoFault(almost + "in z[4096]:bool;cycle{}");
    }

    /** "11, at the end: more than 8192 INSTRUCTIONS". */
    private static void mostInstructions() {
        String asserts = Check.repeat("assert true;", 4095);
        VitalTwin full = Check.made("cycle{" + asserts + "}");
        Check.due("8191 INSTRUCTIONS", 8191, full.count(2));
        VitalTwin last = Check.made("fun g(){}cycle{" + asserts + "}");
        Check.due("8192 INSTRUCTIONS", 8192, last.count(2));
        Check.due("cycle()", 1, last.cycle());
        Check.due("STEPS of it", 2 * 8191, last.steps(200000));
        Check.due("the last INSTRUCTION", 29, last.code(8191, 0));
        Check.due("none behind it", -1, last.code(8192, 0));
        Check.dueFault(11, "fun g(){}fun h(){}cycle{" + asserts + "}@");
        Check.dueFault(11, "fun g(){}cycle{" + asserts + "assert true;} @");
        Check.dueFault(11, "cycle{" + asserts + "assert !true;}//\n@");
        Check.dueFault(11, "fun g(){" + Check.repeat("assert true;", 5400) + "}cycle{}@");
        Check.dueNoFault("cycle{var a[4096]:bool=true;}");
        Check.dueFault(11, "cycle{var a[4090]:bool=true;" + Check.repeat("assert true;", 2051) + "}@");
    }

    /** "more CELLS than there are". */
    private static void mostCells() {
        int[] sizes = {16, 17, 4095, 4096};
        for (int cells : sizes) {
            String[] all = {"in a[%];cycle{}", "out a[%]=true;cycle{}", "state a[%]=true;cycle{}", "fun g(){var a[%]=true;}cycle{}",
                "cycle{var a[%]=true;}"};
            for (String program : all) {
                String fits = program.replace("[%]", "[" + cells + "]:bool");
                Check.due(cells + " cells: " + fits, 0, Check.compile(new VitalTwin(cells), fits));
                String more = program.replace("[%]", "[" + (cells + 1) + "]:bool") + "@";
                if (cells < 4096) {
                    Check.dueFault(cells, 11, more);
                }
            }
            String rest = "in a[" + (cells - 1) + "]:bool;";
            String[] one = {"in d:bool;cycle{}", "cycle{for n=1 to 2{}}", "fun g(p:bool){}cycle{}", "cycle{assert 1>0;}",
                "fun g(){case(1){}}cycle{}"};
            for (String program : one) {
                Check.due(cells + " cells: " + program, 0, Check.compile(new VitalTwin(cells), rest + program));
                Check.dueFault(cells, 11, rest + "state e:bool=true;" + program + "@");
            }
        }
        Check.dueFault(4096, 11, "in a[4096]:bool;in d[4096]:bool;out e[4096]:bool=true;cycle{}@");
        // TEMPS of funs and of cycle each count
        Check.due("just enough TEMPS", 0, Check.compile(new VitalTwin(16),
                "in a[13]:bool;fun g(){assert 1>0;}fun h(){assert 1>0;}cycle{assert 1>0;}"));
        Check.dueFault(16, 11, "in a[14]:bool;fun g(){assert 1>0;}fun h(){assert 1>0;}cycle{assert 1>0;}@");
    }

    /** "a BOUND above 100000 (of cycle)". */
    private static void greatestBound() {
        // 2 + 11 for each round + 5 of the last test, then 1 for HALT
        VitalTwin most = Check.made("cycle{for n=1 to 9090{}assert true;}");
        Check.due("the greatest BOUND", 100000, most.count(5));
        Check.due("it runs to its end", 1, most.cycle());
        Check.dueFault(11, "cycle{for n=1 to 9090{}assert !true;}@");
        Check.dueFault(11, "cycle{for n=1 to 9091{}}@");
        Check.dueFault(11, "fun g(){for n=1 to 9090{}}cycle{g();assert true;}@");
        Check.due("in a fun, with CALL and RET", 100000, Check.made("fun g(){for n=1 to 9090{}}cycle{g();}").count(5));
        // not of a fun that cycle does not call
        Check.dueNoFault("fun g(){for n=-2000000000 to 2000000000{for m=-2000000000 to 2000000000{}}}cycle{}");
        Check.dueFault(11, "fun g(){for n=1 to 2000000000{}}cycle{g();}@");
        Check.dueFault(11, "cycle{if(false){for n=1 to 9091{}}}@");
        Check.dueFault(11, "cycle{for n=-2000000000 to 2000000000{for m=-2000000000 to 2000000000{}}}@");
    }

    /** What is told at the end is told behind a token that can't come there. */
    private static void theEndComesLast() {
        Check.dueFault(1, "in a[4096]:bool;in d:bool;cycle{}@;");
        Check.dueFault(1, "cycle{for n=1 to 9091{}}@$");
        Check.dueFault(11, "cycle{for n=1 to 9091{}}\n//\n  @");
        // one such fault is all that there is to tell
        Check.dueFault(11, "in a[4096]:bool;in d:bool;cycle{for n=1 to 9091{}" + Check.repeat("assert true;", 4100) + "}@");
    }
}
