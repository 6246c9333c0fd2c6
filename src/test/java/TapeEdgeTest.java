/** The edges that Terms 1 (TAPE) and Promises 1 to 3 name; ahead of each test stands the sentence that it is of. */
public final class TapeEdgeTest {
    private static final int FULL = 65536;
    private static final String[] KEYWORDS = {"const", "type", "in", "out", "state", "var", "fun", "if", "else", "case", "for", "to",
        "assert", "return", "cycle", "bool", "true", "false", "min", "max", "abs", "clamp"};

    public static void main(String[] args) {
        onlySigns();
        theLongestTape();
        aFullTapeIsRead();
        readingMakesItEmpty();
        tokensAsLongAsCanBe();
        namesOfTwentySigns();
        namesBeginWithALetter();
        numbersOfTenDigits();
        numbersUpToTheGreatest();
        blanksOrNot();
        commentsSayNothing();
        keywordsAreNoNames();
        cellsAreTheNearest();
        aNewObjectIsEmpty();
        zerosAreLeftOut();
        refusedFeedsChangeNothing();
        emptyTapes();
        aProgramBeginsAnew();
        aFaultLeavesAllButTheTape();
        theLastOf512Calls();
        Check.end();
    }

    /** A const with this name, and the name as symbol and name tell it. */
    private static void isName(String name) {
        Check.due("a name", name, Check.name(Check.made("const " + name + "=1;cycle{}"), 0));
    }

    private static void isNumber(String digits, int value) {
        Check.due("the number " + digits, value, Check.made("const a=" + digits + ";cycle{}").symbol(0, 7));
    }

    /** "its SIGNS, 10 and 32 .. 126": each edge of these, as the first and as the last of sixteen bytes. */
    private static void onlySigns() {
        int[] signs = {10, 32, 126};
        int[] others = {1, 9, 11, 13, 31, 127, 128, 138, 160, 255};
        for (int sign : signs) {
            VitalTwin twin = new VitalTwin(16);
            Check.due("sign " + sign + " as the first byte", 1, twin.feed((long) sign << 56, 0));
            Check.due("sign " + sign + " as the last byte", 2, twin.feed(0, sign));
        }
        for (int other : others) {
            VitalTwin twin = new VitalTwin(16);
            Check.due("byte " + other + " as the first one", -1, twin.feed((long) other << 56, 0));
            Check.due("byte " + other + " as the last one", -1, twin.feed(0, other));
            Check.due("byte " + other + " as the last one of a", -1, twin.feed(other, 0));
            Check.due("byte " + other + " as the first one of b", -1, twin.feed(0, (long) other << 56));
            Check.due("nothing has changed", 0, twin.count(0));
        }
        VitalTwin all = new VitalTwin(16);
        Check.due("sixteen of the highest sign", 16, all.feed(0x7e7e7e7e7e7e7e7eL, 0x7e7e7e7e7e7e7e7eL));
        Check.due("sixteen line ends", 32, all.feed(0x0a0a0a0a0a0a0a0aL, 0x0a0a0a0a0a0a0a0aL));
        Check.due("sixteen of the highest byte", -1, all.feed(-1, -1));
    }

    private static VitalTwin blanks(int many) {
        VitalTwin twin = new VitalTwin(16);
        int length = 0;
        for (; length + 16 <= many; length += 16) {
            twin.feed(0x2020202020202020L, 0x2020202020202020L);
        }
        for (; length < many; length++) {
            twin.feed(0, 32);
        }
        Check.due("blanks", many, twin.count(0));
        return twin;
    }

    /** "at most 65536": "NONE, changing nothing, if .. it would be longer than 65536". */
    private static void theLongestTape() {
        VitalTwin twin = blanks(FULL - 1);
        Check.due("two more are too many", -1, twin.feed(0, 0x2020));
        Check.due("also with zeros between", -1, twin.feed(0x2000000000000000L, 0x20));
        Check.due("nothing has changed", FULL - 1, twin.count(0));
        Check.due("one more is the last", FULL, twin.feed(0x0000000000200000L, 0));
        Check.due("another one", -1, twin.feed(0, 32));
        Check.due("another one in a", -1, twin.feed(32, 0));
        Check.due("no sign at all", FULL, twin.feed(0, 0));
        Check.due("one that is no sign", -1, twin.feed(0, 1));
        Check.due("count(0)", FULL, twin.count(0));
        VitalTwin sixteen = blanks(FULL - 16);
        Check.due("sixteen more fill it", FULL, sixteen.feed(0x2020202020202020L, 0x2020202020202020L));
        VitalTwin fifteen = blanks(FULL - 15);
        Check.due("sixteen more are one too many", -1, fifteen.feed(0x2020202020202020L, 0x2020202020202020L));
        Check.due("count(0)", FULL - 15, fifteen.count(0));
    }

    /** The last signs of a full tape count, and its end stands at 65536. */
    private static void aFullTapeIsRead() {
        VitalTwin twin = blanks(FULL - 7);
        Check.feed(twin, "cycle{}");
        Check.due("a program at the end", 0, twin.compile());
        VitalTwin cut = blanks(FULL - 6);
        Check.feed(cut, "cycle{");
        Check.due("the end of a full tape can't come", 1 + 16 * FULL, cut.compile());
        Check.due("it is empty", 0, cut.count(0));
        VitalTwin more = blanks(FULL - 8);
        Check.feed(more, "cycle{}+");
        Check.due("its last sign", 1 + 16 * (FULL - 1), more.compile());
    }

    /** "what reads the tape makes it empty, also when it tells a fault". */
    private static void readingMakesItEmpty() {
        VitalTwin twin = new VitalTwin(16);
        Check.due("a program", 0, Check.compile(twin, "cycle{}"));
        Check.due("empty behind it", 0, twin.count(0));
        Check.due("a fault at the first sign", 1, Check.compile(twin, "+ cycle{}"));
        Check.due("empty behind that", 0, twin.count(0));
        Check.due("nothing is left of both", 1, twin.compile());
        Check.due("a fault at the end", 1 + 16 * 6, Check.compile(twin, "cycle{"));
        Check.due("the } that comes later does not end it", 1, Check.compile(twin, "}"));
    }

    /** "TOKENS, each as long as can be". */
    private static void tokensAsLongAsCanBe() {
        String ports = "in i:0..9;in b:bool;state f:bool=true;";
        Check.dueNoFault(ports + "cycle{f=i<=9;f=i>=9;f=i==9;f=i!=9;f=b&&b;f=b||b;f=!!b;f=-1<-i;f=!b==!b;}");
        Check.dueFault(1, ports + "cycle{f=i< @=9;}");
        Check.dueFault(1, ports + "cycle{f=i> @=9;}");
        Check.dueFault(1, ports + "cycle{f=b@= =b;}");
        Check.dueFault(1, ports + "cycle{f=b@! =b;}");
        Check.dueFault(1, ports + "cycle{f=b@& &b;}");
        Check.dueFault(1, ports + "cycle{f=b@| |b;}");
        Check.dueFault(1, ports + "cycle{f=i<=@=9;}");
        Check.dueFault(1, ports + "cycle{f=i==@=9;}");
        Check.dueFault(1, ports + "cycle{f=i<@>9;}");
        Check.dueFault(1, ports + "cycle{f@==b;}");
        Check.dueFault(1, "in i:0..@.9;cycle{}");
        Check.dueFault(1, "in i:0@. .9;cycle{}");
        Check.dueFault(1, "in i:0@.9;cycle{}");
        Check.dueFault(1, "in i:0..@..9;cycle{}");
        Check.dueFault(1, "@constant=1;cycle{}");
        Check.dueFault(1, "const a=1@a;cycle{}");
        Check.dueFault(1, "const a=1@_;cycle{}");
        Check.dueFault(1, "@cycle1{}");
        Check.dueFault(3, "cycle{@iff(true){}}");
    }

    /** "NAMES (.. 20 signs at most)"; "1 .. is none (a name of 21 signs". */
    private static void namesOfTwentySigns() {
        isName("a");
        isName("abcdefghijklmnopqrs");
        isName("abcdefghijklmnopqrst");
        isName("_0123456789012345678");
        Check.dueFault(1, "const @abcdefghijklmnopqrstu=1;cycle{}");
        Check.dueFault(1, "const @_01234567890123456789=1;cycle{}");
        Check.dueFault(1, "const @" + Check.repeat("x", 1000) + "=1;cycle{}");
        Check.dueFault(1, "const a=@abcdefghijklmnopqrstu;cycle{}");
        Check.dueFault(1, "cycle{@abcdefghijklmnopqrstu=1;}");
        Check.dueFault(1, "@" + Check.repeat("cycle", 5) + "{}");
        // names that are the same up to their last sign are two
        Check.dueNoFault("const abcdefghijklmnopqrst=1;const abcdefghijklmnopqrsu=2;const abcdefghijklmnopqrs=3;cycle{}");
        Check.dueFault(2, "const abcdefghijklmnopqrst=1;const @abcdefghijklmnopqrst=2;cycle{}");
    }

    /** "a letter or _, then letters, digits, _". */
    private static void namesBeginWithALetter() {
        String[] names = {"a", "z", "A", "Z", "_", "a0", "a9", "z_", "_0", "__", "aZ", "Az"};
        for (String name : names) {
            isName(name);
        }
        String[] others = {"0a", "9", "0_"};
        for (String other : others) {
            Check.dueFault(1, "const @" + other + "=1;cycle{}");
        }
        // what stands next to letters and digits among the signs
        String[] signs = {"`", "^", "\"", "'", "#", "$", "\\", "~", ".", "&", "|"};
        for (String sign : signs) {
            Check.dueFault(1, "const a@" + sign + "=1;cycle{}");
            Check.dueFault(1, "const @" + sign + "a=1;cycle{}");
        }
        Check.dueFault(2, "const a=1;const A=2;const @a=3;cycle{}");
    }

    /** "NUMBERS (1 to 10 digits"; "a number that is .. of 11 digits". */
    private static void numbersOfTenDigits() {
        isNumber("0", 0);
        isNumber("9", 9);
        isNumber("0000000000", 0);
        isNumber("0000000009", 9);
        isNumber("0999999999", 999999999);
        isNumber("1234567890", 1234567890);
        Check.dueFault(1, "const a=@00000000000;cycle{}");
        Check.dueFault(1, "const a=@00000000001;cycle{}");
        Check.dueFault(1, "const a=@20000000000;cycle{}");
        Check.dueFault(1, "const a=@" + Check.repeat("0", 40) + ";cycle{}");
        Check.dueFault(1, "const a=-@00000000001;cycle{}");
        Check.dueFault(1, "state s:0..9=0;cycle{s=@00000000001;}");
    }

    /** "at most 2000000000"; "a number that is too great". */
    private static void numbersUpToTheGreatest() {
        isNumber("1999999999", 1999999999);
        isNumber("2000000000", 2000000000);
        isNumber("-2000000000", -2000000000);
        String[] beyond = {"2000000001", "2147483647", "2147483648", "4294967296", "4294967297", "9999999999"};
        for (String digits : beyond) {
            Check.dueFault(1, "const a=@" + digits + ";cycle{}");
            Check.dueFault(1, "const a=-@" + digits + ";cycle{}");
            Check.dueFault(1, "in a:0..@" + digits + ";cycle{}");
            Check.dueFault(1, "in a[@" + digits + "]:bool;cycle{}");
            Check.dueFault(1, "cycle{assert @" + digits + ">0;}");
        }
    }

    /** "blanks and line ends stand between, or not". */
    private static void blanksOrNot() {
        Check.dueNoFault("in i:0..9;out o[2]:0..9=0;fun f(a:0..9):0..9{return a;}cycle{if(i<9){o[0]=f(i);}else{o[1]=-i+9;}}");
        Check.dueNoFault("\n in \n i \n : \n 0 \n .. \n 9 \n ; \n cycle \n { \n } \n ");
        Check.dueNoFault(Check.repeat(" ", 3000) + "cycle" + Check.repeat("\n", 3000) + "{}" + Check.repeat(" ", 2000));
        Check.dueFault(1, "@ini:0..9;cycle{}");
        Check.dueFault(1, "in i:0@.\n.9;cycle{}");
        Check.dueFault(3, "cycle{assert @tru e;}");
        Check.dueFault(1, "const a=1 @2;cycle{}");
    }

    /** "from // on a line says nothing". */
    private static void commentsSayNothing() {
        Check.dueNoFault("//\ncycle{}");
        Check.dueNoFault("cycle{}//");
        Check.dueNoFault("cycle{}// $ ' { 99999999999 abcdefghijklmnopqrstuvwxyz");
        Check.dueNoFault("cycle///\n{//\n//}\n}//x\n");
        Check.dueNoFault("const a=1//2\n;const b=1///2\n;cycle{}");
        Check.dueFault(1, "cycle{//}@");
        Check.dueFault(1, "//cycle{}@");
        Check.dueFault(1, "//cycle{}\n@");
        Check.dueFault(1, "cycle{}//\n@}");
        Check.dueFault(1, "@/ /\ncycle{}");
        Check.dueFault(1, "const a=4@/\n/2;cycle{}");
        // what stands ahead of it and behind its line end are two tokens
        Check.dueFault(1, "const ab//\n@c=1;cycle{}");
        Check.dueFault(1, "@cyc//\nle{}");
    }

    /** "KEYWORDS, no names". */
    private static void keywordsAreNoNames() {
        for (String word : KEYWORDS) {
            Check.dueFault(1, "const @" + word + "=1;cycle{}");
            Check.dueFault(1, "type t=@" + word + ";cycle{}");
            Check.dueFault(1, "fun f(@" + word + ":bool){}cycle{}");
            Check.dueFault(1, "cycle{var @" + word + ":bool=true;}");
            Check.dueFault(1, "cycle{for @" + word + "=1 to 2{}}");
            isName(word + "_");
            isName("_" + word);
            isName(word + "1");
            isName(Character.toUpperCase(word.charAt(0)) + word.substring(1));
        }
        String[] parts = {"cons", "i", "ou", "els", "t", "tru", "clam", "ab", "cycl", "foor", "inn", "stat"};
        for (String part : parts) {
            isName(part);
        }
    }

    /** "So many CELLS a segment, 16 .. 4096 (a number outside: the nearest one)": all are there, and no more. */
    private static void cellsAreTheNearest() {
        int[][] askedAndDue = {{Integer.MIN_VALUE, 16}, {-16, 16}, {0, 16}, {15, 16}, {16, 16}, {17, 17}, {100, 100}, {4095, 4095},
            {4096, 4096}, {4097, 4096}, {65536 + 20, 4096}, {Integer.MAX_VALUE, 4096}};
        for (int[] one : askedAndDue) {
            int due = one[1];
            VitalTwin twin = new VitalTwin(one[0]);
            Check.due(one[0] + " cells, all in", 0, Check.compile(twin, "in a[" + due + "]:0..9;cycle{}"));
            Check.due("the last one takes a value", true, twin.input(due - 1, 9));
            Check.due("cycle()", 1, twin.cycle());
            Check.due("the last cell", 9, twin.cell(0, due - 1));
            Check.due("that of the second", 9 * 58659, twin.cell(1, due - 1));
            Check.dueThrow("none behind it", IndexOutOfBoundsException.class, () -> twin.cell(0, due));
            String more = "in a[" + (due - 1) + "]:0..9;cycle{assert a[0]+0>=0;assert 0<=0+a[0];}";
            Check.due(one[0] + " cells, a TEMP too many", 11 + 16 * more.length(), Check.compile(twin, more));
            String fits = "in a[" + (due - 1) + "]:0..9;cycle{assert a[0]+0>=0;}";
            Check.due(one[0] + " cells, a TEMP the last", 0, Check.compile(twin, fits));
        }
    }

    /** "an empty tape, no program". */
    private static void aNewObjectIsEmpty() {
        int[] sizes = {-1, 16, 4096, 5000};
        for (int cells : sizes) {
            VitalTwin twin = new VitalTwin(cells);
            Check.due("the tape", 0, twin.count(0));
            for (int what = 1; what <= 13; what++) {
                Check.due("count(" + what + ")", -1, twin.count(what));
            }
            Check.dueThrow("cycle()", IllegalStateException.class, twin::cycle);
            Check.due("power()", false, twin.power());
            Check.due("the tape has no program", 1, twin.compile());
        }
    }

    /** "Sixteen bytes more, from the highest of a to the lowest of b, zeros left out". */
    private static void zerosAreLeftOut() {
        VitalTwin twin = new VitalTwin(16);
        Check.due("none", 0, twin.feed(0, 0));
        // c y c l e { } by one sign in each call, at another byte each time
        long[][] bytes = {{0x63L << 56, 0}, {0x79L << 48, 0}, {0x63, 0}, {0, 0x6cL << 56}, {0, 0x65}, {0, 0x7bL << 8}, {0x7dL << 24, 0}};
        for (int n = 0; n < bytes.length; n++) {
            Check.due("sign " + n, n + 1, twin.feed(bytes[n][0], bytes[n][1]));
            Check.due("none behind it", n + 1, twin.feed(0, 0));
        }
        Check.due("compile()", 0, twin.compile());
        VitalTwin ends = new VitalTwin(16);
        Check.due("the first and the last byte", 2, ends.feed(0x2f00000000000000L, 0x2f));
        // what is a comment then, is one because both stand next to one another
        Check.due("its end", 1 + 16 * 2, ends.compile());
    }

    /** "NONE, changing nothing, if one is none of the signs". */
    private static void refusedFeedsChangeNothing() {
        VitalTwin twin = new VitalTwin(16);
        Check.due("the beginning", 3, twin.feed(0, 0x637963));
        Check.due("a wrong one behind good ones", -1, twin.feed(0x7878787878787878L, 0x787878787878787fL));
        Check.due("a wrong one ahead of good ones", -1, twin.feed(0x1f78787878787878L, 0x7878787878787878L));
        Check.due("a wrong one alone", -1, twin.feed(0x80, 0));
        Check.due("the rest", 7, twin.feed(0, 0x6c657b7d));
        Check.due("compile()", 0, twin.compile());
    }

    /** "The tape is a program .. or its fault": one that has no token has the end, which can't come. */
    private static void emptyTapes() {
        VitalTwin twin = new VitalTwin(16);
        Check.due("an empty tape", 1, twin.compile());
        Check.due("again", 1, twin.compile());
        Check.due("a blank", 1 + 16, Check.compile(twin, " "));
        Check.due("a line end", 1 + 16, Check.compile(twin, "\n"));
        Check.due("a comment", 1 + 16 * 5, Check.compile(twin, "// no"));
        Check.due("a sign that is none", 1, Check.compile(twin, "\""));
        Check.due("the shortest program", 0, Check.compile(twin, "cycle{}"));
    }

    /** "0, and the machine begins with it (no CYCLES, not LATCHED, no FLIPS planned)". */
    private static void aProgramBeginsAnew() {
        String program = "in b:bool;out o:0..9=5;cycle{o=3;assert b;}";
        VitalTwin twin = Check.made(program);
        String first = Check.state(twin);
        twin.input(0, 1);
        twin.cycle();
        twin.flip(0, -1, 3, 500);
        Check.due("with a FLIP planned", 0, Check.compile(twin, program));
        Check.due("none is planned, no CYCLES", first, Check.state(twin));
        Check.due("what was given is gone: it LATCHES", 0, twin.cycle());
        Check.due("when it has LATCHED", 0, Check.compile(twin, program));
        Check.due("it has not", first, Check.state(twin));
        twin.input(0, 1);
        twin.flip(1, 0, 7, 1);
        twin.steps(2);
        Check.due("within a CYCLE", 0, Check.compile(twin, program));
        Check.due("no CYCLE has begun", first, Check.state(twin));
        Check.due("a value may be given", true, twin.input(0, 1));
        Check.due("cycle()", 1, twin.cycle());
        Check.due("no FLIP is done", 0, twin.count(13));
    }

    /** "or its fault: all stays but the tape". */
    private static void aFaultLeavesAllButTheTape() {
        String program = "in b:bool;out o:0..9=5;fun f(p:bool){assert p;}cycle{o=3;f(b);}";
        // the last ones are told at the end, when all has been made
        String[] faults = {"", "+", "cycle{", "out q[3]:0..9=7;in a:0..9;cycle{q[0]=a;}}", "in a[4096]:bool;in c:bool;cycle{}",
            "cycle{for i=1 to 99999{}}"};
        for (String fault : faults) {
            VitalTwin planned = Check.made(program);
            planned.input(0, 1);
            planned.cycle();
            planned.flip(0, 0, 1, 900);
            dueToStay(planned, fault);
            Check.due("the CYCLE that comes then", 1, planned.cycle());
            VitalTwin within = Check.made(program);
            within.input(0, 1);
            within.steps(7);
            dueToStay(within, fault);
            Check.due("the rest of the CYCLE", 1, within.cycle());
            Check.due("what it puts out", 3, within.output(0));
            VitalTwin latched = Check.made(program);
            latched.cycle();
            Check.due("it has LATCHED", 1, latched.count(11));
            dueToStay(latched, fault);
            VitalTwin none = new VitalTwin(16);
            Check.due("a fault", true, Check.compile(none, fault) > 0);
            Check.due("no program, as before", -1, none.count(1));
        }
    }

    private static void dueToStay(VitalTwin twin, String fault) {
        String before = Check.state(twin) + Check.listing(twin, 1) + Check.ranges(twin);
        Check.due("a fault", true, Check.compile(twin, fault) > 0);
        Check.due("what stays behind " + fault, before, Check.state(twin) + Check.listing(twin, 1) + Check.ranges(twin));
        Check.due("the tape", 0, twin.count(0));
    }

    /** "An object is used for at most 512 calls after it has been made": the last one is as good as the first. */
    private static void theLastOf512Calls() {
        VitalTwin twin = new VitalTwin(16);
        String text = "state n:0..999=0;out o:0..999=0;cycle{n=min(n+1,999);o=n;}";
        int calls = (text.length() + 15) / 16 + 1;
        Check.due("compile()", 0, Check.compile(twin, text));
        for (; calls < 511; calls++) {
            Check.due("call " + calls, 1, twin.cycle());
        }
        Check.due("the last call", 511 - ((text.length() + 15) / 16 + 1), twin.output(0));
    }
}
