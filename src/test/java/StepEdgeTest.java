import java.math.BigInteger;

/** The edges that Terms 4 (CODE) names of single INSTRUCTIONS: what goes round, what is a TRAP, what is just none. */
public final class StepEdgeTest {
    private static final long CODING = 58659;
    private static final String[] MARKS = {"+", "-", "*", "/", "%", "min", "max", "<", "<=", ">", ">=", "==", "!="};
    /** Bits that are turned: of A the first row, of B the second one; eight at most in all. */
    private static final int[][][] TURNED = {{{}, {}}, {{63}, {}}, {{}, {63}}, {{63}, {63}}, {{62}, {1}}, {{62, 63}, {0}}, {{0}, {0}}, {{0}, {}},
        {{}, {0}}, {{1}, {1}}, {{31}, {32}}, {{32}, {32}}, {{63, 0}, {63, 0}}, {{61, 3, 2}, {4, 5, 62}}, {{15, 14, 13, 10}, {8, 5, 1, 0}}};

    public static void main(String[] args) {
        everyOpOfTwo();
        everyOpOfOne();
        quotientsThatGoRound();
        byNothing();
        productsThatAreNoMultiples();
        indexesOfTheFirst();
        indexesOfTheSecond();
        indexesThatAreWritten();
        oneAndNothing();
        jumpsAtOtherNumbers();
        checks();
        stepsThatTrapAreDone();
        Check.end();
    }

    /** What 64 bits hold of a number. */
    private static long round(BigInteger number) {
        return number.longValue();
    }

    /** What A becomes; null if it is a TRAP. */
    private static Long due(String mark, long a, long b, long one) {
        BigInteger first = BigInteger.valueOf(a);
        BigInteger second = BigInteger.valueOf(b);
        switch (mark) {
            case "+":
                return round(first.add(second));
            case "-":
                return round(first.subtract(second));
            case "*":
                BigInteger product = BigInteger.valueOf(round(first.multiply(second)));
                BigInteger[] parts = product.divideAndRemainder(BigInteger.valueOf(one));
                return parts[1].signum() == 0 ? round(parts[0]) : null;
            case "/":
                return b == 0 ? null : Long.valueOf(round(BigInteger.valueOf(one).multiply(BigInteger.valueOf(round(first.divide(second))))));
            case "%":
                return b == 0 ? null : Long.valueOf(round(first.remainder(second)));
            case "min":
                return round(first.min(second));
            case "max":
                return round(first.max(second));
            default:
                return isTrue(mark, first.compareTo(second)) ? one : 0;
        }
    }

    private static boolean isTrue(String mark, int order) {
        switch (mark) {
            case "<":
                return order < 0;
            case "<=":
                return order <= 0;
            case ">":
                return order > 0;
            case ">=":
                return order >= 0;
            case "==":
                return order == 0;
            default:
                return order != 0;
        }
    }

    private static long turned(long number, int[] bits) {
        long made = number;
        for (int bit : bits) {
            made ^= 1L << bit;
        }
        return made;
    }

    /** "All else goes round in 64 bits": LOAD 0; STORE 3; LOAD 1; MOVE; LOAD 3; the OP, A and B being turned ahead of it. */
    private static void everyOpOfTwo() {
        int[][] pairs = {{0, 1}, {1, 1}, {-1, 1}, {-9, 9}, {9, 2}, {-1, -1}, {7, -9}, {0, -1}};
        for (String mark : MARKS) {
            String e = mark.length() > 1 && mark.charAt(0) == 'm' ? mark + "(x,y)" : "x" + mark + "y";
            boolean isBool = "<=>===!=".contains(mark) && !mark.startsWith("m");
            for (int[] pair : pairs) {
                String ranges = "in x:-9..9;in y:" + (pair[1] > 0 ? "1..9" : "-9..-1") + ";";
                VitalTwin twin = Check.made(16, ranges + (isBool ? "state s:bool=false;" : "state s:-99..99=0;") + "cycle{s=" + e + ";}");
                twin.input(0, pair[0]);
                twin.input(1, pair[1]);
                for (int[][] bits : TURNED) {
                    for (int copy = 0; copy <= 1; copy++) {
                        oneOp(twin, mark, pair, bits, copy);
                    }
                }
            }
        }
    }

    private static void oneOp(VitalTwin twin, String mark, int[] pair, int[][] bits, int copy) {
        long one = copy == 0 ? 1 : CODING;
        int step = copy == 0 ? 5 : 8 + 5;
        twin.power();
        for (int bit : bits[0]) {
            Check.due("flip", true, twin.flip(copy, -1, bit, step));
        }
        for (int bit : bits[1]) {
            Check.due("flip", true, twin.flip(copy, -2, bit, step));
        }
        long a = turned(one * pair[0], bits[0]);
        long b = turned(one * pair[1], bits[1]);
        String told = a + " " + mark + " " + b + " in copy " + copy;
        Long want = due(mark, a, b, one);
        Check.due("STEPS to " + told, step + 1, twin.steps(step + 1));
        Check.due("a TRAP at " + told, want == null ? 1 : 0, twin.count(11));
        Check.due("A behind " + told, want == null ? a : want, twin.register(copy, 0));
        Check.due("B behind " + told, b, twin.register(copy, 1));
    }

    /** NEG, ABS, NOT, LOW and HIGH with all kinds of A: LOAD 0; the OP. */
    private static void everyOpOfOne() {
        String[] es = {"-x", "abs(x)", "clamp(x,-3,4)"};
        int[][] some = {{}, {63}, {0}, {62}, {63, 0}, {63, 62}, {2}, {3}, {1, 0}};
        for (int x : new int[] {0, 1, -1, 4, 5, -3, -4, 9, -9}) {
            for (String e : es) {
                VitalTwin twin = Check.made(16, "in x:-9..9;state s:-9..9=0;cycle{s=" + e + ";}");
                int size = twin.count(2);
                twin.input(0, x);
                for (int[] bits : some) {
                    for (int copy = 0; copy <= 1; copy++) {
                        int step = copy == 0 ? 1 : size + 1;
                        long one = copy == 0 ? 1 : CODING;
                        twin.power();
                        for (int bit : bits) {
                            twin.flip(copy, -1, bit, step);
                        }
                        long a = turned(one * x, bits);
                        BigInteger big = BigInteger.valueOf(a);
                        long want = e.equals("-x") ? round(big.negate()) : round(big.abs());
                        if (e.startsWith("clamp")) {
                            want = Math.max(a, -3 * one);
                            twin.steps(step + 1);
                            Check.due("LOW of " + a, want, twin.register(copy, 0));
                            twin.steps(1);
                            want = Math.min(want, 4 * one);
                        } else {
                            twin.steps(step + 1);
                        }
                        Check.due(e + " of " + a + " in copy " + copy, want, twin.register(copy, 0));
                    }
                }
            }
        }
    }

    /** The lowest number by -1 goes round, and leaves nothing. */
    private static void quotientsThatGoRound() {
        for (String mark : new String[] {"/", "%"}) {
            VitalTwin twin = Check.made(16, "in x:0..9;in y:-9..-1;state s:-99..99=0;cycle{s=x" + mark + "y;}");
            twin.input(1, -1);
            twin.flip(0, -1, 63, 5);
            Check.due("STEPS", 6, twin.steps(6));
            Check.due("A behind " + mark, mark.equals("/") ? Long.MIN_VALUE : 0, twin.register(0, 0));
            Check.due("no TRAP", 0, twin.count(11));
        }
    }

    /** "/ and % by 0, are a TRAP": in the second copy, too, where eight FLIPS make 0 of 58659. */
    private static void byNothing() {
        for (String mark : new String[] {"/", "%"}) {
            VitalTwin twin = Check.made(16, "in x:0..9;in y:1..9;state s:-99..99=0;cycle{s=x" + mark + "y;}");
            for (int copy = 0; copy <= 1; copy++) {
                long one = copy == 0 ? 1 : CODING;
                twin.power();
                for (int bit = 0; bit < 16; bit++) {
                    if ((one >> bit & 1) == 1) {
                        Check.due("flip", true, twin.flip(copy, -2, bit, copy == 0 ? 5 : 13));
                    }
                }
                Check.due("STEPS to the TRAP", copy == 0 ? 6 : 14, twin.steps(200000));
                Check.due("a TRAP", 1, twin.count(11));
                Check.due("B was 0", 0, twin.register(copy, 1));
                Check.due("nothing is put out", 0, twin.count(8));
            }
            twin.power();
            Check.due("without FLIPS it is EMITTED", 1, twin.cycle());
        }
    }

    /** "MUL: A * B (64 bits that go round) must be a multiple of 58659, and A is that part". */
    private static void productsThatAreNoMultiples() {
        VitalTwin twin = Check.made(16, "in x:-9..9;in y:-9..9;state s:-99..99=0;cycle{s=x*y;}");
        twin.input(0, 5);
        twin.input(1, 7);
        Check.due("a multiple", 1, twin.cycle());
        Check.due("its part", 35 * CODING, twin.cell(1, 2));
        // one of both that is a multiple is enough, as long as nothing goes round
        twin.flip(1, -1, 0, 13);
        twin.steps(14);
        Check.due("no TRAP", 0, twin.count(11));
        Check.due("the part then", (5 * CODING ^ 1) * 7, twin.register(1, 0));
        twin.power();
        twin.flip(1, -1, 0, 13);
        twin.flip(1, -2, 0, 13);
        Check.due("STEPS to the TRAP", 14, twin.steps(200000));
        Check.due("both are none", 1, twin.count(11));
        // the first copy has no such thing to ask
        twin.power();
        twin.flip(0, -1, 62, 5);
        twin.flip(0, -2, 61, 5);
        twin.steps(6);
        Check.due("no TRAP of the first", 0, twin.count(11));
        Check.due("what has gone round", (5L ^ 1L << 62) * (7L ^ 1L << 61), twin.register(0, 0));
        // 0 is a multiple
        twin.power();
        twin.input(0, 0);
        twin.flip(1, -2, 3, 13);
        twin.steps(14);
        Check.due("0 times what is no multiple", 0, twin.register(1, 0));
        Check.due("no TRAP", 0, twin.count(11));
    }

    private static VitalTwin reading(int k) {
        // LOAD 0; LOADX 1 3; STORE 4; HALT
        VitalTwin twin = Check.made(16, "in k:0..2;in a[3]:0..9;out o:0..9=0;cycle{o=a[k];}");
        twin.input(0, k);
        for (int n = 0; n < 3; n++) {
            twin.input(1 + n, 4 + n);
        }
        return twin;
    }

    /** "An INDEX: of the first copy the number itself .. from 0 to n - 1": each bit of each INDEX. */
    private static void indexesOfTheFirst() {
        for (int k = 0; k < 3; k++) {
            VitalTwin twin = reading(k);
            Check.due("cycle()", 1, twin.cycle());
            Check.due("element " + k, 4 + k, twin.output(0));
            for (int bit = 0; bit < 64; bit++) {
                long index = k ^ 1L << bit;
                boolean isOne = index >= 0 && index < 3;
                twin.power();
                twin.flip(0, -1, bit, 1);
                Check.due("STEPS", 2, twin.steps(2));
                Check.due("a TRAP at INDEX " + index, isOne ? 0 : 1, twin.count(11));
                Check.due("A behind it", isOne ? 4 + index : index, twin.register(0, 0));
            }
        }
    }

    /** "of the second a 58659th of it, which it must be a multiple of". */
    private static void indexesOfTheSecond() {
        for (int k = 0; k < 3; k++) {
            VitalTwin twin = reading(k);
            for (int bit = 0; bit < 64; bit++) {
                twin.power();
                twin.flip(1, -1, bit, 4 + 1);
                Check.due("STEPS", 6, twin.steps(6));
                Check.due("no multiple, a TRAP", 1, twin.count(11));
                Check.due("A stays", CODING * k ^ 1L << bit, twin.register(1, 0));
            }
        }
        // multiples: 1 of 0 is an element, 2 to the 32nd of 0 and 3 of 1 are none
        turnedIndex(0, CODING, true);
        turnedIndex(0, CODING << 1, true);
        turnedIndex(0, CODING << 2, false);
        turnedIndex(0, CODING << 32, false);
        turnedIndex(0, CODING << 47, false);
        turnedIndex(1, CODING ^ 3 * CODING, false);
        turnedIndex(1, CODING, true);
    }

    private static void turnedIndex(int k, long bits, boolean isOne) {
        VitalTwin twin = reading(k);
        for (int bit = 0; bit < 64; bit++) {
            if ((bits >>> bit & 1) == 1) {
                Check.due("flip", true, twin.flip(1, -1, bit, 4 + 1));
            }
        }
        long index = (CODING * k ^ bits) / CODING;
        Check.due("STEPS", 6, twin.steps(6));
        Check.due("a TRAP at INDEX " + index, isOne ? 0 : 1, twin.count(11));
        Check.due("A behind it", isOne ? CODING * (4 + index) : CODING * k ^ bits, twin.register(1, 0));
    }

    /** "5 STOREX c n: cell c + the INDEX of B = A": each bit of each INDEX, and no other cell is written. */
    private static void indexesThatAreWritten() {
        // LOAD 0; STORE 5; CONST 7; STORE 6; LOAD 5; MOVE; LOAD 6; STOREX 1 3; HALT
        for (int k = 0; k < 3; k++) {
            VitalTwin twin = Check.made(16, "in k:0..2;out o[3]:0..9=1;state z:0..9=2;cycle{o[k]=7;}");
            Check.due("CELLS", 7, twin.count(3));
            twin.input(0, k);
            for (int bit = 0; bit < 64; bit++) {
                long index = k ^ 1L << bit;
                boolean isOne = index >= 0 && index < 3;
                twin.power();
                twin.flip(0, -2, bit, 7);
                twin.steps(8);
                Check.due("a TRAP at INDEX " + index, isOne ? 0 : 1, twin.count(11));
                long[] cells = {k, 1, 1, 1, 2};
                if (isOne) {
                    cells[1 + (int) index] = 7;
                }
                if (bit < 4 || bit > 61) {
                    for (int n = 0; n < cells.length; n++) {
                        Check.due("cell " + n + " behind INDEX " + index, cells[n], twin.cell(0, n));
                    }
                }
            }
        }
        VitalTwin second = Check.made(16, "in k:0..2;out o[3]:0..9=1;state z:0..9=2;cycle{o[k]=7;}");
        for (int bit = 0; bit < 64; bit++) {
            second.power();
            second.flip(1, -2, bit, 9 + 7);
            Check.due("STEPS to the TRAP of the second", 9 + 8, second.steps(200000));
            Check.due("no multiple", 1, second.count(11));
            Check.due("nothing is written", CODING, second.cell(1, 1));
        }
    }

    /** "13 LT .. 18 NE: A = 1 or 0"; "21 NOT: A = 1 if A is 0, else 0"; "what is 1 above are 58659 times that". */
    private static void oneAndNothing() {
        VitalTwin twin = Check.made(16, "in b:bool;out o:bool=false;cycle{o=!b;}");
        // LOAD 0; NOT; STORE 1; HALT
        for (int copy = 0; copy <= 1; copy++) {
            long one = copy == 0 ? 1 : CODING;
            int step = copy == 0 ? 1 : 5;
            for (int bit = 0; bit < 64; bit += 7) {
                twin.power();
                twin.flip(copy, -1, bit, step);
                twin.steps(step + 1);
                Check.due("NOT of bit " + bit, 0, twin.register(copy, 0));
            }
            twin.power();
            twin.steps(step + 1);
            Check.due("NOT of 0", one, twin.register(copy, 0));
        }
    }

    /** "25 JZ t: if A is 0. 26 JNZ t: if it is not": numbers that are neither 0 nor 1, too. */
    private static void jumpsAtOtherNumbers() {
        // LOAD 0; JZ 4; CONST 1; STORE 1; HALT: three STEPS of the first, if it jumps
        VitalTwin zero = Check.made(16, "in b:bool;state s:0..9=0;cycle{if(b){s=1;}}");
        // LOAD 0; JNZ 3; CONST 0; CHECK; HALT
        VitalTwin other = Check.made(16, "in b:bool;cycle{assert b||false;}");
        for (int bit = 0; bit < 64; bit += 9) {
            zero.power();
            zero.flip(0, -1, bit, 1);
            zero.steps(2);
            Check.due("JZ of bit " + bit, 2, zero.register(0, 2));
            zero.power();
            zero.flip(1, -1, bit, 4);
            zero.steps(5);
            Check.due("JZ of bit " + bit + " in the second", 2, zero.register(1, 2));
            other.power();
            other.flip(0, -1, bit, 1);
            other.steps(2);
            Check.due("JNZ of bit " + bit, 3, other.register(0, 2));
            Check.due("A stays", 1L << bit, other.register(0, 0));
        }
        zero.power();
        zero.steps(2);
        Check.due("JZ of 0", 4, zero.register(0, 2));
        other.power();
        other.steps(2);
        Check.due("JNZ of 0", 2, other.register(0, 2));
    }

    /** "30 CHECK: a TRAP, if A is 0". */
    private static void checks() {
        VitalTwin twin = Check.made(16, "in b:bool;cycle{assert b;}");
        twin.input(0, 1);
        Check.due("1 is none", 1, twin.cycle());
        for (int bit = 0; bit < 64; bit++) {
            twin.power();
            twin.flip(0, -1, bit, 1);
            twin.steps(2);
            Check.due("bit " + bit, bit == 0 ? 1 : 0, twin.count(11));
        }
        for (int bit = 0; bit < 64; bit++) {
            twin.power();
            twin.flip(1, -1, bit, 4);
            Check.due("no bit alone makes 0 of 58659", 1, twin.cycle());
        }
    }

    /** "a STEP that TRAPS is done": it counts, and it is the last one. */
    private static void stepsThatTrapAreDone() {
        VitalTwin first = Check.made(16, "cycle{assert false;}");
        Check.due("STEPS of the first", 2, first.steps(200000));
        Check.due("none behind it", 0, first.steps(1));
        VitalTwin one = Check.made(16, "cycle{assert false;}");
        Check.due("ahead of it", 1, one.steps(1));
        Check.due("not LATCHED", 0, one.count(11));
        Check.due("the STEP itself", 1, one.steps(1));
        Check.due("LATCHED", 1, one.count(11));
        VitalTwin second = Check.made(16, "in b:bool;cycle{assert b;}");
        second.input(0, 1);
        second.flip(1, 0, 3, 2);
        second.flip(1, 0, 0, 3);
        second.flip(1, 0, 1, 3);
        Check.due("no TRAP", 1, second.cycle());
        for (int bit = 0; bit < 16; bit++) {
            if ((CODING >> bit & 1) == 1) {
                second.flip(1, -1, bit, 4);
            }
        }
        Check.due("STEPS to the TRAP of the second", 5, second.steps(200000));
        Check.due("why", 1, second.count(11));
    }
}
