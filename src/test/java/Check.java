import java.util.ArrayList;
import java.util.List;

/** What the tests share: it feeds programs, compares answers and ends with exit code 1 if one is wrong. */
final class Check {
    private static int wrong = 0;

    private Check() {
    }

    interface Call {
        void run();
    }

    static void due(String what, long want, long got) {
        if (want != got) {
            wrong++;
            System.out.println(what + " answered " + got + ", due is " + want);
        }
    }

    static void due(String what, boolean want, boolean got) {
        due(what, want ? 1 : 0, got ? 1 : 0);
    }

    static void due(String what, String want, String got) {
        if (!want.equals(got)) {
            wrong++;
            System.out.println(what + " answered\n" + got + "\ndue is\n" + want);
        }
    }

    static void dueThrow(String what, Class<? extends RuntimeException> want, Call call) {
        try {
            call.run();
        } catch (RuntimeException thrown) {
            if (thrown.getClass() != want) {
                wrong++;
                System.out.println(what + " threw " + thrown + ", due is " + want.getName());
            }
            return;
        }
        wrong++;
        System.out.println(what + " threw nothing, due is " + want.getName());
    }

    static void end() {
        if (wrong > 0) {
            System.out.println(wrong + " wrong answers");
            System.exit(1);
        }
    }

    /** Feeds a text by sixteen signs a call. */
    static void feed(VitalTwin twin, String text) {
        for (int start = 0; start < text.length(); start += 16) {
            twin.feed(eight(text, start), eight(text, start + 8));
        }
    }

    private static long eight(String text, int start) {
        long bytes = 0;
        for (int k = start; k < start + 8; k++) {
            bytes = bytes << 8 | (k < text.length() ? text.charAt(k) : 0);
        }
        return bytes;
    }

    static int compile(VitalTwin twin, String text) {
        feed(twin, text);
        return twin.compile();
    }

    /** A new object with a program that has no fault. */
    static VitalTwin made(int cells, String text) {
        VitalTwin twin = new VitalTwin(cells);
        due("compile() of " + text, 0, compile(twin, text));
        return twin;
    }

    static VitalTwin made(String text) {
        return made(4096, text);
    }

    /** The fault of a program in which the mark @ stands ahead of the place of the fault. */
    static void dueFault(int kind, String marked) {
        dueFault(4096, kind, marked);
    }

    static void dueFault(int cells, int kind, String marked) {
        int place = marked.indexOf('@');
        String text = marked.substring(0, place) + marked.substring(place + 1);
        VitalTwin twin = new VitalTwin(cells);
        int fault = compile(twin, text);
        String shown = text.length() > 200 ? text.substring(0, 200) + ".." : text;
        due("the kind of the fault (at " + fault / 16 + ") of " + shown, kind, fault % 16);
        due("the place of the fault of " + shown, place, fault / 16);
    }

    static void dueNoFault(String text) {
        made(text);
    }

    static String text(VitalTwin twin, int copy, int i) {
        StringBuilder made = new StringBuilder();
        for (int k = 0; twin.text(copy, i, k) != VitalTwin.NONE; k++) {
            made.append((char) twin.text(copy, i, k));
        }
        return made.toString();
    }

    static String name(VitalTwin twin, int i) {
        StringBuilder made = new StringBuilder();
        for (int k = 0; twin.name(i, k) != VitalTwin.NONE; k++) {
            made.append((char) twin.name(i, k));
        }
        return made.toString();
    }

    /** All INSTRUCTIONS of a copy, joined by "; ". */
    static String listing(VitalTwin twin, int copy) {
        List<String> lines = new ArrayList<>();
        for (int i = 0; i < twin.count(2); i++) {
            lines.add(text(twin, copy, i));
        }
        return String.join("; ", lines);
    }

    /** The RANGES of all INSTRUCTIONS that set A, as low..high; - for others. */
    static String ranges(VitalTwin twin) {
        List<String> made = new ArrayList<>();
        for (int i = 0; i < twin.count(2); i++) {
            long low = twin.range(i, 0);
            long high = twin.range(i, 1);
            made.add(low == 1 && high == 0 ? "-" : low + ".." + high);
        }
        return String.join(" ", made);
    }

    static String repeat(String text, int times) {
        return text.repeat(times);
    }

    /** All that can be asked of an object without changing it, to see that a call has changed nothing. */
    static String state(VitalTwin twin) {
        StringBuilder made = new StringBuilder();
        for (int what = 0; what <= 13; what++) {
            made.append(twin.count(what)).append(' ');
        }
        for (int copy = 0; copy <= 1; copy++) {
            for (int what = 0; what <= 3; what++) {
                made.append(twin.register(copy, what)).append(' ');
            }
            for (int k = 0; k < twin.count(3); k++) {
                made.append(twin.cell(copy, k)).append(' ');
            }
        }
        for (int k = 0; k < twin.count(7); k++) {
            made.append(twin.output(k)).append(' ');
        }
        for (int i = 0; i < twin.count(1); i++) {
            for (int what = 0; what <= 8; what++) {
                made.append(twin.symbol(i, what)).append(' ');
            }
        }
        return made.toString();
    }
}
