import java.util.ArrayList;
import java.util.Arrays;
import java.util.HashMap;
import java.util.List;
import java.util.Map;
import java.util.Random;

/**
 * Makes a program without a fault from a seed, together with what it means: its text goes to a VitalTwin, and run does
 * the same on plain numbers, without any code. No name is told twice, so one row for each name holds all values.
 */
final class Maker {
    static final int INT = 0;
    static final int BOOL = 1;
    static final int ENUM = 2;
    private static final String[] COLOURS = {"red", "green", "blue"};
    /** Where an e stands in the grammar: one of a lower level needs ( ) to stand in one of a higher. */
    private static final int CHOICE = 0;
    private static final int OR = 1;
    private static final int AND = 2;
    private static final int IS = 3;
    private static final int SUM = 4;
    private static final int PRODUCT = 5;
    private static final int FRONT = 6;
    private static final int FIRST = 7;

    /** A variable, of one element or of an array (length 0: none). */
    record Var(String name, String kind, Type type, int length, int value) {
        int elements() {
            return Math.max(1, length);
        }
    }

    record Type(int of, int low, int high) {
        String text() {
            return of == BOOL ? "bool" : of == ENUM ? "Col" : low + " .. " + high;
        }
    }

    /** An assert that is false. */
    static final class Trap extends RuntimeException {
        private static final long serialVersionUID = 1;
    }

    private interface Value {
        long of(Map<String, long[]> cells);
    }

    private interface Act {
        void run(Map<String, long[]> cells);
    }

    private record Expression(String text, int level, Value value) {
        String within(int due) {
            return level < due ? "(" + text + ")" : text;
        }
    }

    private record Statement(String text, Act act) {
    }

    private record Fun(String name, List<Var> parameters, Type result, Statement body, Value answer) {
        long call(long[] given, Map<String, long[]> cells) {
            for (int k = 0; k < given.length; k++) {
                cells.put(parameters.get(k).name(), new long[] {given[k]});
            }
            body.act().run(cells);
            return answer == null ? 0 : answer.of(cells);
        }
    }

    final String text;
    final List<Var> ports = new ArrayList<>();
    private final Random random;
    private final List<Var> visible = new ArrayList<>();
    private final List<Fun> funs = new ArrayList<>();
    private final Statement cycle;
    private int names;

    Maker(int seed) {
        random = new Random(seed);
        StringBuilder made = new StringBuilder("const K = 3; const L = -K; type Col = red, green, blue;\n");
        for (int n = 2 + below(5); n > 0; n--) {
            made.append(port());
        }
        for (int n = below(4); n > 0; n--) {
            made.append(fun());
            if (below(3) == 0) {
                made.append(port());
            }
        }
        cycle = block(3);
        text = made.append("cycle ").append(cycle.text()).toString();
    }

    /** What the segment of the first copy holds at first, at the names of in, out and state. */
    Map<String, long[]> begin() {
        Map<String, long[]> cells = new HashMap<>();
        for (Var port : ports) {
            long[] row = new long[port.elements()];
            Arrays.fill(row, port.value());
            cells.put(port.name(), row);
        }
        return cells;
    }

    /** A whole CYCLE; throws a Trap where the machine has one. */
    void run(Map<String, long[]> cells) {
        cycle.act().run(cells);
    }

    private int below(int many) {
        return random.nextInt(many);
    }

    private String fresh(String begin) {
        names++;
        return begin + names;
    }

    private Type type() {
        switch (below(5)) {
            case 0:
                return new Type(BOOL, 0, 1);
            case 1:
                return new Type(ENUM, 0, 2);
            default:
                int low = below(20) - 12;
                return new Type(INT, low, low + below(30));
        }
    }

    private int valueOf(Type type) {
        return type.low() + below(type.high() - type.low() + 1);
    }

    private static String constant(Type type, int value) {
        return type.of() == BOOL ? value == 1 ? "true" : "false" : type.of() == ENUM ? COLOURS[value] : "" + value;
    }

    private String port() {
        String kind = new String[] {"in", "out", "state"}[below(3)];
        Type type = type();
        int length = below(3) == 0 ? 1 + below(4) : 0;
        boolean given = kind.equals("in");
        int value = given ? (type.low() <= 0 && type.high() >= 0 ? 0 : type.low()) : valueOf(type);
        Var made = new Var(fresh(kind), kind, type, length, value);
        ports.add(made);
        visible.add(made);
        return kind + " " + made.name() + (length > 0 ? "[" + length + "]" : "") + ": " + type.text()
                + (given ? "" : " = " + constant(type, value)) + ";\n";
    }

    private String fun() {
        String name = fresh("f");
        int keep = visible.size();
        List<Var> parameters = new ArrayList<>();
        List<String> told = new ArrayList<>();
        for (int n = below(4); n > 0; n--) {
            Var parameter = new Var(fresh("p"), "parameter", type(), 0, 0);
            parameters.add(parameter);
            told.add(parameter.name() + ": " + parameter.type().text());
        }
        visible.addAll(parameters);
        Type result = below(4) == 0 ? null : type();
        Statement body = statements(2);
        Expression answer = result == null ? null : fitting(result, 2);
        visible.subList(keep, visible.size()).clear();
        funs.add(new Fun(name, parameters, result, body, answer == null ? null : answer.value()));
        return "fun " + name + "(" + String.join(", ", told) + ")" + (result == null ? "" : ": " + result.text())
                + " {" + body.text() + (answer == null ? "" : " return " + answer.text() + ";") + " }\n";
    }

    private Statement block(int depth) {
        int keep = visible.size();
        Statement held = statements(depth);
        visible.subList(keep, visible.size()).clear();
        return new Statement("{" + held.text() + " }", held.act());
    }

    private Statement statements(int depth) {
        List<Act> acts = new ArrayList<>();
        StringBuilder made = new StringBuilder();
        for (int n = below(depth + 2); n > 0; n--) {
            Statement one = statement(depth);
            acts.add(one.act());
            made.append(' ').append(one.text());
        }
        return new Statement(made.toString(), cells -> {
            for (Act act : acts) {
                act.run(cells);
            }
        });
    }

    private Statement statement(int depth) {
        switch (below(depth > 0 ? 9 : 5)) {
            case 0:
                return variable();
            case 1:
                return funs.isEmpty() ? assignment() : callStatement();
            case 2:
                return below(4) == 0 ? assertion() : assignment();
            case 3:
            case 4:
            case 5:
                return assignment();
            case 6:
                return ifs(depth);
            case 7:
                return cases(depth);
            default:
                return rounds(depth);
        }
    }

    private Statement variable() {
        Type type = type();
        String name = fresh("v");
        if (below(3) == 0) {
            int length = 1 + below(3);
            int value = valueOf(type);
            visible.add(new Var(name, "var", type, length, 0));
            return new Statement("var " + name + "[" + length + "]: " + type.text() + " = " + constant(type, value) + ";",
                    cells -> {
                        long[] row = new long[length];
                        Arrays.fill(row, value);
                        cells.put(name, row);
                    });
        }
        Expression first = fitting(type, 2);
        visible.add(new Var(name, "var", type, 0, 0));
        return new Statement("var " + name + ": " + type.text() + " = " + first.text() + ";",
                cells -> cells.put(name, new long[] {first.value().of(cells)}));
    }

    private Statement assertion() {
        Expression asked = expression(BOOL, 2);
        return new Statement("assert " + asked.text() + ";", cells -> {
            if (asked.value().of(cells) == 0) {
                throw new Trap();
            }
        });
    }

    private Statement assignment() {
        List<Var> targets = new ArrayList<>();
        for (Var known : visible) {
            if (!known.kind().equals("in") && !known.kind().equals("for")) {
                targets.add(known);
            }
        }
        if (targets.isEmpty()) {
            return new Statement("if (false) { }", cells -> { });
        }
        Var target = targets.get(below(targets.size()));
        Expression index = target.length() > 0 ? fitting(new Type(INT, 0, target.length() - 1), 1) : null;
        Expression given = fitting(target.type(), 3);
        String place = index == null ? "" : "[" + index.text() + "]";
        return new Statement(target.name() + place + " = " + given.text() + ";", cells -> {
            int at = index == null ? 0 : (int) index.value().of(cells);
            long value = given.value().of(cells);
            cells.get(target.name())[at] = value;
        });
    }

    private Statement callStatement() {
        Expression made = call(funs.get(below(funs.size())), 1);
        return new Statement(made.text() + ";", cells -> made.value().of(cells));
    }

    private Statement ifs(int depth) {
        Expression asked = expression(BOOL, 2);
        Statement then = block(depth - 1);
        String begin = "if (" + asked.text() + ") " + then.text();
        int form = below(3);
        if (form == 0) {
            return new Statement(begin, cells -> {
                if (asked.value().of(cells) != 0) {
                    then.act().run(cells);
                }
            });
        }
        Statement otherwise = form == 1 ? block(depth - 1) : ifs(depth - 1 > 0 ? depth - 1 : 1);
        return new Statement(begin + " else " + otherwise.text(), cells -> {
            if (asked.value().of(cells) != 0) {
                then.act().run(cells);
            } else {
                otherwise.act().run(cells);
            }
        });
    }

    private Statement cases(int depth) {
        boolean ofInt = below(3) > 0;
        Expression asked = expression(ofInt ? INT : ENUM, 2);
        List<int[]> ends = new ArrayList<>();
        List<Statement> blocks = new ArrayList<>();
        StringBuilder made = new StringBuilder("case (" + asked.text() + ") {");
        for (int n = below(4); n > 0; n--) {
            int low = ofInt ? below(12) - 5 : below(3);
            int high = ofInt && below(2) == 0 ? low + below(6) : low;
            boolean ofTwo = ofInt && (high > low || below(4) == 0);
            Statement arm = block(depth - 1);
            ends.add(new int[] {low, high});
            blocks.add(arm);
            made.append(ofInt ? " " + low : " " + COLOURS[low]).append(ofTwo ? " .. " + high : "").append(": ").append(arm.text());
        }
        Statement otherwise = below(2) == 0 ? block(depth - 1) : null;
        made.append(otherwise == null ? " }" : " else " + otherwise.text() + " }");
        return new Statement(made.toString(), cells -> {
            long value = asked.value().of(cells);
            for (int k = 0; k < ends.size(); k++) {
                if (value >= ends.get(k)[0] && value <= ends.get(k)[1]) {
                    blocks.get(k).act().run(cells);
                    return;
                }
            }
            if (otherwise != null) {
                otherwise.act().run(cells);
            }
        });
    }

    private Statement rounds(int depth) {
        String name = fresh("n");
        int first = below(6) - 3;
        int last = first + below(4);
        visible.add(new Var(name, "for", new Type(INT, first, last), 0, 0));
        Statement held = block(depth - 1);
        visible.remove(visible.size() - 1);
        return new Statement("for " + name + " = " + first + " to " + last + " " + held.text(), cells -> {
            for (int n = first; n <= last; n++) {
                cells.put(name, new long[] {n});
                held.act().run(cells);
            }
        });
    }

    /** An e whose RANGE is within that of a type. */
    private Expression fitting(Type type, int depth) {
        return type.of() == INT ? clamped(expression(INT, depth), type.low(), type.high()) : expression(type.of(), depth);
    }

    private static Expression clamped(Expression given, int low, int high) {
        return new Expression("clamp(" + given.text() + ", " + low + ", " + high + ")", FIRST,
                cells -> Math.min(high, Math.max(low, given.value().of(cells))));
    }

    private Expression expression(int of, int depth) {
        if (depth <= 0) {
            return simple(of);
        }
        switch (below(7)) {
            case 0:
                Expression asked = expression(BOOL, depth - 1);
                Expression first = expression(of, depth - 1);
                Expression second = expression(of, depth - 1);
                return new Expression(asked.within(OR) + " ? " + first.text() + " : " + second.text(), CHOICE,
                        cells -> asked.value().of(cells) != 0 ? first.value().of(cells) : second.value().of(cells));
            case 1:
                Fun called = funOf(of);
                return called == null ? simple(of) : call(called, depth - 1);
            default:
                return of == INT ? number(depth) : of == BOOL ? truth(depth) : simple(of);
        }
    }

    /** A fun whose RESULT is of this, or null. */
    private Fun funOf(int of) {
        List<Fun> known = new ArrayList<>();
        for (Fun fun : funs) {
            if (fun.result() != null && fun.result().of() == of) {
                known.add(fun);
            }
        }
        return known.isEmpty() ? null : known.get(below(known.size()));
    }

    private Expression simple(int of) {
        List<Var> known = new ArrayList<>();
        for (Var one : visible) {
            if (one.type().of() == of) {
                known.add(one);
            }
        }
        if (!known.isEmpty() && below(4) > 0) {
            Var used = known.get(below(known.size()));
            if (used.length() == 0) {
                return new Expression(used.name(), FIRST, cells -> cells.get(used.name())[0]);
            }
            Expression at = index(used);
            return new Expression(used.name() + "[" + at.text() + "]", FIRST,
                    cells -> cells.get(used.name())[(int) at.value().of(cells)]);
        }
        if (of == INT && below(4) == 0) {
            boolean third = below(2) == 0;
            return new Expression(third ? "K" : "L", FIRST, cells -> third ? 3 : -3);
        }
        int value = of == INT ? below(15) : below(of == BOOL ? 2 : 3);
        return new Expression(constant(new Type(of, 0, 0), value), FIRST, cells -> value);
    }

    /** An index of an array: a number, or a variable that is kept within it. */
    private Expression index(Var array) {
        List<Var> known = new ArrayList<>();
        for (Var one : visible) {
            if (one.type().of() == INT && one.length() == 0) {
                known.add(one);
            }
        }
        if (known.isEmpty() || below(2) == 0) {
            int at = below(array.length());
            return new Expression("" + at, FIRST, cells -> at);
        }
        Var used = known.get(below(known.size()));
        return clamped(new Expression(used.name(), FIRST, cells -> cells.get(used.name())[0]), 0, array.length() - 1);
    }

    private Expression call(Fun fun, int depth) {
        List<Expression> given = new ArrayList<>();
        List<String> told = new ArrayList<>();
        for (Var parameter : fun.parameters()) {
            Expression one = fitting(parameter.type(), depth);
            given.add(one);
            told.add(one.text());
        }
        return new Expression(fun.name() + "(" + String.join(", ", told) + ")", FIRST, cells -> {
            long[] values = new long[given.size()];
            for (int k = 0; k < values.length; k++) {
                values[k] = given.get(k).value().of(cells);
            }
            return fun.call(values, cells);
        });
    }

    private Expression number(int depth) {
        Expression a = expression(INT, depth - 1);
        Expression b = expression(INT, depth - 1);
        Value x = a.value();
        Value y = b.value();
        switch (below(9)) {
            case 0:
                return new Expression(a.within(SUM) + " + " + b.within(PRODUCT), SUM, cells -> x.of(cells) + y.of(cells));
            case 1:
                return new Expression(a.within(SUM) + " - " + b.within(PRODUCT), SUM, cells -> x.of(cells) - y.of(cells));
            case 2:
                Expression small = clamped(a, -99, 99);
                Expression other = clamped(b, -99, 99);
                return new Expression(small.text() + " * " + other.text(), PRODUCT,
                        cells -> small.value().of(cells) * other.value().of(cells));
            case 3:
                Expression divisor = below(2) == 0 ? clamped(b, 1, 9) : clamped(b, -7, -2);
                return new Expression(a.within(PRODUCT) + " / " + divisor.text(), PRODUCT,
                        cells -> x.of(cells) / divisor.value().of(cells));
            case 4:
                Expression modulus = below(2) == 0 ? clamped(b, 2, 5) : clamped(b, -6, -1);
                return new Expression(a.within(PRODUCT) + " % " + modulus.text(), PRODUCT,
                        cells -> x.of(cells) % modulus.value().of(cells));
            case 5:
                return new Expression("-" + a.within(FRONT), FRONT, cells -> -x.of(cells));
            case 6:
                return new Expression("min(" + a.text() + ", " + b.text() + ")", FIRST, cells -> Math.min(x.of(cells), y.of(cells)));
            case 7:
                return new Expression("max(" + a.text() + ", " + b.text() + ")", FIRST, cells -> Math.max(x.of(cells), y.of(cells)));
            default:
                return new Expression("abs(" + a.text() + ")", FIRST, cells -> Math.abs(x.of(cells)));
        }
    }

    private Expression truth(int depth) {
        if (below(2) == 0) {
            return comparison(depth);
        }
        Expression a = expression(BOOL, depth - 1);
        Expression b = expression(BOOL, depth - 1);
        Value x = a.value();
        Value y = b.value();
        switch (below(3)) {
            case 0:
                return new Expression(a.within(AND) + " && " + b.within(IS), AND, cells -> x.of(cells) != 0 ? y.of(cells) : 0);
            case 1:
                return new Expression(a.within(OR) + " || " + b.within(AND), OR, cells -> x.of(cells) != 0 ? 1 : y.of(cells));
            default:
                return new Expression("!" + a.within(FRONT), FRONT, cells -> 1 - x.of(cells));
        }
    }

    private Expression comparison(int depth) {
        int mark = below(6);
        int of = mark < 2 ? below(3) : INT;
        Expression a = expression(of, depth - 1);
        Expression b = expression(of, depth - 1);
        String word = new String[] {"==", "!=", "<", "<=", ">", ">="}[mark];
        return new Expression(a.within(SUM) + " " + word + " " + b.within(SUM), IS, cells -> {
            long x = a.value().of(cells);
            long y = b.value().of(cells);
            boolean[] truths = {x == y, x != y, x < y, x <= y, x > y, x >= y};
            return truths[mark] ? 1 : 0;
        });
    }
}
