import java.util.ArrayList;
import java.util.EnumMap;
import java.util.EnumSet;
import java.util.List;
import java.util.Map;
import java.util.Set;
import java.util.function.Consumer;

/**
 * "Not promised": nothing beyond the answers and state changes that the document describes. So each call leaves
 * all as it was but what its promise names, a call that is refused and a question leave all, and one object
 * leaves the others. A part of the state is seen by calls that may spoil it, so each part is looked at on a new
 * object behind the same calls.
 */
public final class StateTest {
    private static final Checks CHECKS = new Checks("StateTest");
    private static final String[] COLUMNS = {"x.a", "x.a,x.b", "x.a,x.b,x.c", "x.a,x.b,x.c,x.d"};
    private static final Set<Part> NOTHING = EnumSet.noneOf(Part.class);

    private enum Part { RESULT, LOOKED, PLACE, HAS_QUERY, QUERY, TEXT, VALUES, T, U, V }

    private record Call(String name, Consumer<QueryLoops> made, Set<Part> changes) { }

    /** refusesMore: there are four values and 130 characters, so that there is no room for another. */
    private record State(String name, List<Consumer<QueryLoops>> made, boolean hasQuery, boolean refusesMore) { }

    public static void main(String[] args) {
        List<State> states = states();
        statesAreWhatTheyAreCalled(states);
        for (State state : states) {
            Map<Part, String> before = seen(state.made);
            for (Call call : calls(state)) {
                leavesTheRest(state, before, call);
            }
        }
        objectsShareNothing(states);
        CHECKS.end();
    }

    private static void leavesTheRest(State state, Map<Part, String> before, Call call) {
        List<Consumer<QueryLoops>> made = new ArrayList<>(state.made);
        made.add(call.made);
        Map<Part, String> behind = seen(made);
        for (Part part : Part.values()) {
            if (!call.changes.contains(part)) {
                CHECKS.due(part + " behind " + call.name + " where " + state.name, behind.get(part), before.get(part));
            }
        }
    }

    private static void objectsShareNothing(List<State> states) {
        for (State one : states) {
            for (State other : states) {
                Map<Part, String> alone = seen(one.made);
                for (Part part : Part.values()) {
                    String beside = look(part, () -> besides(one, other));
                    CHECKS.due(part + " where " + one.name + ", beside one where " + other.name, beside, alone.get(part));
                }
            }
        }
    }

    /** The calls of two objects by turns; the first of the objects. */
    private static QueryLoops besides(State one, State other) {
        QueryLoops x = new QueryLoops();
        QueryLoops y = new QueryLoops();
        for (int i = 0; i < Math.max(one.made.size(), other.made.size()); i++) {
            if (i < one.made.size()) {
                one.made.get(i).accept(x);
            }
            if (i < other.made.size()) {
                other.made.get(i).accept(y);
            }
        }
        return x;
    }

    // What the states are.

    private static List<State> states() {
        Consumer<QueryLoops> tables = StateTest::tables;
        Consumer<QueryLoops> query = x -> Checks.query(x, 2, "select x.a,y.a from T x left U y on x.a=y.a");
        Consumer<QueryLoops> half = x -> {
            x.value(5);
            x.nothing();
            Checks.text(x, "select z.b from T z where z.a=1");
        };
        Consumer<QueryLoops> begun = x -> Checks.text(x, "select x.a from");
        Consumer<QueryLoops> full = x -> {
            Checks.put(x, -1);
            for (int n = 1; n <= 5; n++) {
                x.value(n);
            }
            Checks.compile(x, "");
            Checks.text(x, "select x.a from T x" + " ".repeat(112));
        };
        Consumer<QueryLoops> tenRows = x -> {
            for (int n = 1; n <= 10; n++) {
                Checks.put(x, 1, n);
            }
        };
        Consumer<QueryLoops> stop = x -> Checks.query(x, 1, "select x.a from U x join U y on 1=1");
        Consumer<QueryLoops> anew = x -> x.declare(1, 1);
        return List.of(
                new State("it is new", List.of(), false, false),
                new State("there are tables", List.of(tables), false, false),
                new State("something is begun", List.of(tables, half), false, false),
                new State("a query ran", List.of(tables, query, half), true, false),
                new State("no room is left", List.of(tables, full), false, true),
                new State("a query was compiled", List.of(tables, query, half, x -> Checks.compile(x, "")), true, false),
                new State("a text was ill", List.of(tables, query, half, x -> Checks.compile(x, "!"), begun), false, false),
                new State("a query stopped", List.of(tables, query, tenRows, stop, half), true, false),
                new State("its table is new", List.of(tables, query, anew, half), false, false));
    }

    private static void tables(QueryLoops x) {
        x.declare(0, 2);
        x.declare(1, 1);
        Checks.put(x, 0, 1, null);
        Checks.put(x, 0, 2, 20);
        Checks.put(x, 1, 2);
        Checks.put(x, 1, null, null);
    }

    /** Without this, a state might be another one than its name says, and the test would test little. */
    private static void statesAreWhatTheyAreCalled(List<State> states) {
        for (State state : states) {
            Map<Part, String> seen = seen(state.made);
            CHECKS.due("query where " + state.name, seen.get(Part.HAS_QUERY), "" + state.hasQuery);
            QueryLoops x = object(state.made);
            CHECKS.due("room for a value where " + state.name, x.value(1), !state.refusesMore);
            CHECKS.due("room for a character", x.ask(' '), !state.refusesMore);
            switch (state.name) {
                case "a query ran", "its table is new" -> {
                    CHECKS.due("result", seen.get(Part.RESULT), "1 ?;2 2");
                    CHECKS.due("looked", seen.get(Part.LOOKED), "4");
                }
                case "a query stopped" -> CHECKS.due("query", seen.get(Part.QUERY), "throws.UnsupportedOperationException @35");
                case "a text was ill" -> CHECKS.due("place", seen.get(Part.PLACE), "31");
                case "something is begun" -> {
                    CHECKS.due("values", seen.get(Part.VALUES), "2: 5 ? @1");
                    CHECKS.due("text", seen.get(Part.TEXT), "1 items: 2 @1");
                    CHECKS.due("T", seen.get(Part.T), "2 columns, 2 rows: 1 ?;2 20 @2");
                    CHECKS.due("U", seen.get(Part.U), "1 columns, 1 rows: 2 @1");
                    CHECKS.due("V", seen.get(Part.V), "not there");
                }
                default -> { }
            }
        }
    }

    // What the calls are, each with what its promise lets it change.

    private static List<Call> calls(State state) {
        List<Call> all = new ArrayList<>();
        String[] names = {"T", "U", "V"};
        for (int t = 0; t < 3; t++) {
            int table = t;
            Part part = Part.valueOf(names[t]);
            all.add(new Call("declare", x -> x.declare(table, 3), EnumSet.of(part, Part.HAS_QUERY, Part.QUERY)));
            all.add(new Call("row", x -> Checks.row(x, table), EnumSet.of(part, Part.VALUES, Part.QUERY)));
            all.add(new Call("drop", x -> x.drop(table), EnumSet.of(part, Part.QUERY)));
            all.add(new Call("declare refused", x -> x.declare(table, 0), NOTHING));
            all.add(new Call("declare refused", x -> x.declare(table, 5), NOTHING));
        }
        for (int table : new int[] {Integer.MIN_VALUE, -1, 3, Integer.MAX_VALUE}) {
            all.add(new Call("declare refused", x -> x.declare(table, 2), NOTHING));
            all.add(new Call("row refused", x -> Checks.row(x, table), EnumSet.of(Part.VALUES)));
            all.add(new Call("drop refused", x -> x.drop(table), NOTHING));
        }
        Set<Part> values = state.refusesMore ? NOTHING : EnumSet.of(Part.VALUES);
        all.add(new Call("value", x -> x.value(9), values));
        all.add(new Call("nothing", x -> x.nothing(), values));
        all.add(new Call("ask", x -> x.ask('='), state.refusesMore ? NOTHING : EnumSet.of(Part.TEXT)));
        for (char c : new char[] {0, 31, 127, 'a' + 256, 0xffff}) {
            all.add(new Call("ask refused", x -> x.ask(c), NOTHING));
        }
        all.add(new Call("compile", x -> Checks.compile(x, ""),
                EnumSet.of(Part.TEXT, Part.HAS_QUERY, Part.QUERY, Part.RESULT, Part.PLACE)));
        all.add(new Call("run", x -> Checks.run(x), state.hasQuery ? EnumSet.of(Part.RESULT, Part.LOOKED) : NOTHING));
        all.addAll(questions());
        return all;
    }

    private static List<Call> questions() {
        List<Call> all = new ArrayList<>();
        all.add(new Call("place", x -> x.place(), NOTHING));
        all.add(new Call("looked", x -> x.looked(), NOTHING));
        all.add(new Call("rows", x -> x.rows(), NOTHING));
        for (int i : new int[] {Integer.MIN_VALUE, -1, 0, 1, 30, Integer.MAX_VALUE}) {
            all.add(new Call("isNull", x -> x.isNull(0, i), NOTHING));
            all.add(new Call("isNull", x -> x.isNull(i, 0), NOTHING));
            all.add(new Call("result", x -> x.result(0, i), NOTHING));
            all.add(new Call("result", x -> x.result(i, 0), NOTHING));
        }
        return all;
    }

    // How a part is seen.

    private interface Maker {
        QueryLoops make();
    }

    private static QueryLoops object(List<Consumer<QueryLoops>> made) {
        QueryLoops x = new QueryLoops();
        made.forEach(call -> call.accept(x));
        return x;
    }

    private static Map<Part, String> seen(List<Consumer<QueryLoops>> made) {
        Map<Part, String> all = new EnumMap<>(Part.class);
        for (Part part : Part.values()) {
            all.put(part, look(part, () -> object(made)));
        }
        return all;
    }

    private static String look(Part part, Maker maker) {
        QueryLoops x = maker.make();
        return switch (part) {
            case RESULT -> Checks.answer(x, widthOf(x));
            case LOOKED -> "" + x.looked();
            case PLACE -> "" + x.place();
            case HAS_QUERY -> "" + !Checks.run(x).equals("throws.IllegalStateException");
            case QUERY -> ran(x);
            case TEXT -> text(x);
            case VALUES -> values(maker);
            case T -> table(maker, 0);
            case U -> table(maker, 1);
            case V -> table(maker, 2);
        };
    }

    /** As many values as have something in the first two rows, so that none too many is seen either. */
    private static int widthOf(QueryLoops x) {
        int width = 0;
        for (int k = 0; k < 6; k++) {
            boolean there = x.isNull(0, k) || x.isNull(1, k) || x.result(0, k) != 0 || x.result(1, k) != 0;
            width = there ? k + 1 : width;
        }
        return width;
    }

    private static String ran(QueryLoops x) {
        String ran = Checks.run(x);
        return (ran.startsWith("throws") ? ran : Checks.answer(x, widthOf(x))) + " @" + x.looked();
    }

    /** The text as a query of tables that are always the same. */
    private static String text(QueryLoops x) {
        Checks.row(x, -1);
        for (int table = 0; table < 3; table++) {
            x.declare(table, 4);
            Checks.put(x, table, 1, 2, 3, 4);
        }
        String compiled = Checks.compile(x, "");
        return compiled.startsWith("ill") ? compiled : compiled + " items: " + ran(x);
    }

    private static String values(Maker maker) {
        for (int n = 1; n <= 4; n++) {
            QueryLoops x = maker.make();
            Checks.compile(x, "");
            x.declare(0, n);
            if (Checks.row(x, 0).equals("1")) {
                return n + ": " + Checks.query(x, n, "select " + COLUMNS[n - 1] + " from T x");
            }
        }
        return "none";
    }

    private static String table(Maker maker, int table) {
        for (int n = 4; n >= 1; n--) {
            QueryLoops x = maker.make();
            Checks.compile(x, "");
            String rows = Checks.query(x, n, "select " + COLUMNS[n - 1] + " from " + "TUV".charAt(table) + " x");
            if (!rows.startsWith("ill")) {
                return n + " columns, " + (1 + x.drop(table)) + " rows: " + rows;
            }
        }
        return "not there";
    }
}
