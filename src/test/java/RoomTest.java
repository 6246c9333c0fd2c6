import com.sun.management.ThreadMXBean;
import java.lang.management.ManagementFactory;

/**
 * What a run of 512 calls makes: the room of a run holds 600,000 objects and 7,300,000 fields and elements. Bytes are
 * counted here, and an element has at least one and an object sixteen, so a run of less bytes fits whatever they are.
 */
public final class RoomTest {
    private static final long ROOM = 7_300_000;
    /** The SYMBOLS of two programs of 400, which are made once each: nothing else is made behind the constructor. */
    private static final long SYMBOLS = 2 * 400 * 96;
    private static final int CALLS = 512;
    private static final ThreadMXBean THREADS = (ThreadMXBean) ManagementFactory.getThreadMXBean();

    private interface Calls {
        void on(VitalTwin twin);
    }

    public static void main(String[] args) {
        theRunIsAsItWasTold();
        answersBehindTheRun();
        outsOfManyLengths();
        // once ahead of it, as the loading of classes is counted, too
        for (int n = 0; n < 2; n++) {
            moreOutsEachTime(n == 1);
            moreCodeEachTime(n == 1);
            manySymbols(n == 1);
            aFullTape(n == 1);
            cyclesAndProbes(n == 1);
            texts(n == 1);
            faults(n == 1);
            deepFaults(n == 1);
            thrown(n == 1);
        }
        Check.end();
    }

    private static String manyOuts(int n) {
        return "out a[" + n + "]:0..0=0;cycle{}      ";
    }

    /** 511 calls: each program has one cell of out more than the one ahead of it. */
    private static void growOuts(VitalTwin twin) {
        for (int n = 3927; n <= 4096; n++) {
            Check.due("compile() with " + n + " outs", 0, Check.compile(twin, manyOuts(n)));
        }
        Check.due("count(7)", 4096, twin.count(7));
    }

    private static VitalTwin grown() {
        VitalTwin twin = new VitalTwin(4096);
        growOuts(twin);
        return twin;
    }

    private static void theRunIsAsItWasTold() {
        VitalTwin twin = new VitalTwin(4096);
        Check.due("the first feed", 16, twin.feed(8031453192906289977L, 3618463330113302064L));
        Check.due("the second feed", 32, twin.feed(4409089333620075621L, 8898303761103986720L));
        Check.due("compile()", 0, twin.compile());
        Check.due("count(7)", 3927, twin.count(7));
        VitalTwin other = new VitalTwin(4096);
        Check.feed(other, manyOuts(3927));
        Check.due("as many signs", 32, other.count(0));
    }

    /** The 512th call of the run, on an object of its own each. */
    private static void answersBehindTheRun() {
        Check.due("output(0)", 0, grown().output(0));
        Check.due("output(4095)", 0, grown().output(4095));
        Check.due("cycle()", 1, grown().cycle());
        dueNone("output(4096)", () -> grown().output(4096));
        dueNone("output(-1)", () -> grown().output(-1));
        dueNone("past(0, 0) ahead of a cycle", () -> grown().past(0, 0));
        dueNone("past(0, 4095) ahead of a cycle", () -> grown().past(0, 4095));
    }

    private static void dueNone(String what, Check.Call call) {
        Check.dueThrow(what, IndexOutOfBoundsException.class, call);
    }

    /** Promises 3, 12 and 13: the row of what was EMITTED is used again, and tells nothing of the program ahead. */
    private static void outsOfManyLengths() {
        VitalTwin twin = new VitalTwin(4096);
        for (int n : new int[] {5, 4090, 16, 300, 301, 4091, 1, 4092}) {
            outsOfLength(twin, n);
        }
    }

    private static void outsOfLength(VitalTwin twin, int n) {
        String of = " of " + n + " outs";
        String text = "state s:0..99=0;out a[" + n + "]:0..99=7;cycle{s=(s+1)%100;a[0]=s;a[" + (n - 1) + "]=s;}";
        Check.due("compile()" + of, 0, Check.compile(twin, text));
        Check.due("output(last) ahead of a cycle" + of, 7, twin.output(n - 1));
        dueNone("past(0, 0) ahead of a cycle" + of, () -> twin.past(0, 0));
        for (int cycle = 1; cycle <= 18; cycle++) {
            Check.due("cycle()" + of, 1, twin.cycle());
            if (cycle == 2) {
                Check.due("past(1, last)" + of, 1, twin.past(1, n - 1));
                dueNone("past(2, 0) behind two cycles" + of, () -> twin.past(2, 0));
            }
        }
        Check.due("output(0)" + of, 18, twin.output(0));
        Check.due("output(last)" + of, 18, twin.output(n - 1));
        for (int ahead = 0; ahead < 16; ahead++) {
            Check.due("past(" + ahead + ", last)" + of, 18 - ahead, twin.past(ahead, n - 1));
        }
        Check.due("past(15, 0)" + of, 3, twin.past(15, 0));
        Check.due("past(15, the middle)" + of, n > 2 ? 7 : 3, twin.past(15, n / 2));
        dueNone("past(16, 0)" + of, () -> twin.past(16, 0));
        dueNone("past(0, one more)" + of, () -> twin.past(0, n));
        dueNone("output(one more)" + of, () -> twin.output(n));
    }

    /** Does a run on a new object; throwing: calls of it throw (or tell a fault), and what that makes is Java's. */
    private static void measure(String what, boolean told, boolean throwing, Calls calls) {
        long ahead = THREADS.getThreadAllocatedBytes(Thread.currentThread().getId());
        VitalTwin twin = new VitalTwin(4096);
        long made = THREADS.getThreadAllocatedBytes(Thread.currentThread().getId());
        calls.on(twin);
        long behind = THREADS.getThreadAllocatedBytes(Thread.currentThread().getId());
        if (told) {
            Check.due("bytes of the run of " + what + " (" + (behind - ahead) + ") fit the room", true, behind - ahead < ROOM);
            if (!throwing) {
                Check.due("bytes of the calls of " + what + " (" + (behind - made) + ") are few", true, behind - made <= SYMBOLS);
            }
        }
    }

    /** What is fed for each program, made ahead of the run, as it would be counted with it. */
    private static long[][] feedsOf(String[] programs) {
        long[][] feeds = new long[programs.length][];
        for (int n = 0; n < programs.length; n++) {
            String padded = programs[n] + " ".repeat((16 - programs[n].length() % 16) % 16);
            feeds[n] = new long[padded.length() / 8];
            for (int k = 0; k < padded.length(); k++) {
                feeds[n][k / 8] = feeds[n][k / 8] << 8 | padded.charAt(k);
            }
        }
        return feeds;
    }

    /** Feeds and compiles one program behind the other, as many as fit into 512 calls: the last answer of compile(). */
    private static int compileAll(VitalTwin twin, long[][] feeds) {
        int calls = 0;
        int last = 0;
        for (int n = 0; calls + feeds[n % feeds.length].length / 2 + 1 <= CALLS; n++) {
            long[] program = feeds[n % feeds.length];
            for (int k = 0; k < program.length; k += 2) {
                twin.feed(program[k], program[k + 1]);
            }
            last = twin.compile();
            calls += program.length / 2 + 1;
        }
        return last;
    }

    private static void measureCompiles(String what, boolean told, boolean faulty, String... programs) {
        long[][] feeds = feedsOf(programs);
        int[] last = new int[1];
        measure(what, told, faulty, twin -> last[0] = compileAll(twin, feeds));
        Check.due(what + " has a fault", faulty, last[0] != 0);
    }

    private static void moreOutsEachTime(boolean told) {
        String[] programs = new String[170];
        for (int n = 0; n < programs.length; n++) {
            programs[n] = manyOuts(3927 + n);
        }
        measureCompiles("more outs each time", told, false, programs);
    }

    private static void moreCodeEachTime(boolean told) {
        String[] programs = new String[120];
        for (int n = 0; n < programs.length; n++) {
            programs[n] = "cycle{if(true){var a[" + (60 + 33 * n) + "]:0..0=0;}}";
        }
        measureCompiles("more code each time", told, false, programs);
    }

    private static void manySymbols(boolean told) {
        StringBuilder program = new StringBuilder();
        for (int type = 0; type < 8; type++) {
            program.append("type t").append(type).append('=');
            for (int member = 0; member < 49; member++) {
                program.append(member == 0 ? "m" : ",m").append(49 * type + member);
            }
            program.append(';');
        }
        measureCompiles("400 SYMBOLS", told, false, program + "cycle{}");
    }

    private static void aFullTape(boolean told) {
        measureCompiles("a long tape", told, false, "cycle{" + "assert true;".repeat(680) + "}");
    }

    private static void faults(boolean told) {
        measureCompiles("faults", told, true, "cycle{}}");
    }

    private static void deepFaults(boolean told) {
        measureCompiles("deep faults", told, true, "cycle{assert " + "(".repeat(63) + "$");
        measureCompiles("faults of blocks", told, true, "cycle{" + "if(true){".repeat(63) + "assert (");
    }

    private static void cyclesAndProbes(boolean told) {
        long[][] feeds = feedsOf(new String[] {"out a[4000]:0..9=0;cycle{for i=0 to 9{a[i]=i;}}"});
        measure("cycles and probes", told, false, twin -> {
            for (int k = 0; k < feeds[0].length; k += 2) {
                twin.feed(feeds[0][k], feeds[0][k + 1]);
            }
            twin.compile();
            for (int n = 0; n < 60; n++) {
                twin.cycle();
                twin.probe(n % 2, n, n, 0);
                twin.flip(0, -2, 0, 3);
                twin.steps(1 + n);
                twin.cycle();
                twin.past(0, n);
                twin.power();
            }
        });
    }

    private static void texts(boolean told) {
        long[][] feeds = feedsOf(new String[] {"out a:0..2000000000=0;cycle{a=2000000000;}"});
        measure("texts", told, false, twin -> {
            for (int k = 0; k < feeds[0].length; k += 2) {
                twin.feed(feeds[0][k], feeds[0][k + 1]);
            }
            twin.compile();
            for (int n = 0; n < 120; n++) {
                twin.text(1, n % 3, n % 20);
                twin.name(0, n % 2);
                twin.symbol(0, n % 9);
                twin.range(n % 3, n % 2);
            }
        });
    }

    private static void thrown(boolean told) {
        measure("calls that throw", told, true, twin -> {
            for (int n = 0; n < CALLS; n++) {
                try {
                    twin.steps(0);
                } catch (IllegalArgumentException due) {
                    continue;
                }
                Check.due("steps(0) throws", true, false);
            }
        });
    }
}
