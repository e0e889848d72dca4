/** Promises 10 to 14: run, looked, rows, isNull, result; with truth, running and the result. */
public final class RunTest {
    private static final Checks CHECKS = new Checks("RunTest");
    private static final String STOPS = "throws.UnsupportedOperationException";
    private static final String NO_QUERY = "throws.IllegalStateException";

    public static void main(String[] args) {
        truth();
        joins();
        leftItems();
        parts();
        plainResult();
        groups();
        gatheredWithoutGroup();
        stops();
        looked();
        outsideTheResult();
        runsOnTheRowsOfThen();
        CHECKS.end();
    }

    private static QueryLoops object() {
        QueryLoops x = new QueryLoops();
        x.declare(0, 2);
        x.declare(1, 2);
        x.declare(2, 1);
        return x;
    }

    private static void truth() {
        String[] isTrue = {"1=1", "1<2", "2>1", "-1<0", "null is null", "not 1=2", "not not 1=1", "1=1 or null=1",
            "null=1 or 1=1", "not (null=1 and 1=2)", "not (1=2 and null=1)", "1=2 or 1=1", "1=2 and 1=2 or 1=1",
            "1=1 or 1=2 and 1=2", "not 1=2 and 1=1", "not x.a is null", "x.a=1 and x.b=2", "x.a<x.b", "x.b>x.a",
            "not 1 is null", "-000001=-1", "999999>-999999"};
        String[] isFalse = {"1=2", "2<1", "1<1", "1>1", "1>2", "1 is null", "not 1=1", "1=1 and 1=2",
            "1=2 and null=1", "null=1 and 1=2", "1=2 or 1=2", "(1=1 or 1=1) and 1=2", "not (1=1 or 1=2)"};
        String[] isUnknown = {"null=null", "null=1", "1=null", "null<1", "1>null", "not null=null",
            "null=1 and 1=1", "1=1 and null=1", "null=1 or 1=2", "1=2 or null=1", "not (null=1 or 1=2)",
            "null=1 and null=1", "null=1 or null=1"};
        for (String condition : isTrue) {
            truths(condition, "1 @1", " @1");
        }
        for (String condition : isFalse) {
            truths(condition, " @1", "1 @1");
        }
        for (String condition : isUnknown) {
            truths(condition, " @1", " @1");
        }
    }

    private static void truths(String condition, String asItIs, String turned) {
        QueryLoops x = object();
        Checks.put(x, 0, 1, 2);
        String asked = "select x.a from T x where ";
        CHECKS.due(condition, Checks.query(x, 1, asked + condition), asItIs);
        CHECKS.due("not of it", Checks.query(x, 1, asked + "not (" + condition + ")"), turned);
        x.declare(2, 1);
        Checks.put(x, 2, 5);
        asked = "select y.a from T x left V y on ";
        CHECKS.due("as an item's", Checks.query(x, 1, asked + condition), asItIs.startsWith("1") ? "5 @2" : "? @2");
    }

    private static void joins() {
        QueryLoops x = object();
        Checks.put(x, 0, 1, 10);
        Checks.put(x, 0, 2, 20);
        Checks.put(x, 0, null, 30);
        Checks.put(x, 1, 2, 200);
        Checks.put(x, 1, 1, 100);
        Checks.put(x, 1, 2, 201);
        Checks.put(x, 1, null, 300);
        CHECKS.due("join", Checks.query(x, 2, "select x.b, y.b from T x join U y on x.a=y.a"), "10 100;20 200;20 201 @15");
        CHECKS.due("the other way", Checks.query(x, 2, "select y.b, x.b from U x join T y on x.a=y.a"),
                "20 200;10 100;20 201 @16");
        CHECKS.due("with itself", Checks.query(x, 2, "select x.b, y.b from T x join T y on x.b<y.b"), "10 20;10 30;20 30 @12");
        Checks.put(x, 2, 7);
        CHECKS.due("three", Checks.query(x, 3, "select x.b, y.b, z.a from T x join U y on x.a=y.a join V z on 1=1"),
                "10 100 7;20 200 7;20 201 7 @18");
        x.drop(2);
        CHECKS.due("an empty one", Checks.query(x, 1, "select x.b from T x join U y on x.a=y.a join V z on 1=1"), " @15");
        CHECKS.due("an empty one first", Checks.query(x, 1, "select x.a from V x left U y on 1=1"), " @0");
    }

    private static QueryLoops leftTables() {
        QueryLoops x = object();
        Checks.put(x, 0, 1, 10);
        Checks.put(x, 0, 2, 20);
        Checks.put(x, 1, 2, 200);
        Checks.put(x, 1, 2, null);
        return x;
    }

    private static void leftItems() {
        CHECKS.due("left", Checks.query(leftTables(), 3, "select x.b, y.a, y.b from T x left U y on x.a=y.a"),
                "10 ? ?;20 2 200;20 2 ? @6");
        CHECKS.due("fitted, but not passed", Checks.query(leftTables(), 1, "select x.b from T x left U y on x.a=y.a where y.b>200"), " @6");
        CHECKS.due("the NULL row by where", Checks.query(leftTables(), 2, "select x.b, y.a from T x left U y on x.a=y.a where y.b is null"),
                "10 ?;20 2 @6");
        CHECKS.due("only the NULL row", Checks.query(leftTables(), 1, "select x.b from T x left U y on x.a=y.a where y.a is null"), "10 @6");
        CHECKS.due("left of an empty one", Checks.query(leftTables(), 2, "select x.b, z.a from T x left V z on 1=1"), "10 ?;20 ? @2");
        CHECKS.due("a NULL row goes on", Checks.query(leftTables(), 2,
                "select x.b, w.b from T x left U y on x.a=y.a left T w on y.a is null"), "10 10;10 20;20 ?;20 ? @12");
        CHECKS.due("an unknown fits nothing", Checks.query(leftTables(), 2,
                "select x.b, w.b from T x left U y on x.a=y.a join T w on y.b=w.b or null=w.a"), " @12");
    }

    private static QueryLoops partTables() {
        QueryLoops x = object();
        Checks.put(x, 0, 1, 10);
        Checks.put(x, 0, 2, 20);
        Checks.put(x, 1, 1, 5);
        Checks.put(x, 1, 2, 6);
        Checks.put(x, 2, 1);
        return x;
    }

    private static void parts() {
        String asked = "select x.b from T x join U y on 1=1 where ";
        CHECKS.due("of item 1", Checks.query(partTables(), 1, asked + "x.a=1"), "10;10 @4");
        CHECKS.due("no column", Checks.query(partTables(), 1, asked + "1=2"), " @2");
        CHECKS.due("null has no column", Checks.query(partTables(), 1, asked + "null is null"), "10;10;20;20 @6");
        CHECKS.due("of item 2", Checks.query(partTables(), 1, asked + "y.a=1"), "10;20 @6");
        CHECKS.due("of both", Checks.query(partTables(), 1, asked + "x.a=1 and y.a=1"), "10 @4");
        CHECKS.due("the other order", Checks.query(partTables(), 1, asked + "y.a=1 and x.a=1"), "10 @4");
        CHECKS.due("one in parentheses", Checks.query(partTables(), 1, asked + "(x.a=1 and y.a=1)"), "10 @6");
        CHECKS.due("two in parentheses", Checks.query(partTables(), 1, asked + "(x.a=1) and (y.a=1)"), "10 @4");
        CHECKS.due("or is one part", Checks.query(partTables(), 1, asked + "x.a=1 and y.a=1 or x.a=3 and y.a=3"), "10 @6");
        CHECKS.due("or of item 1 alone", Checks.query(partTables(), 1, asked + "x.a=1 or x.a=3"), "10;10 @4");
        CHECKS.due("or with or", Checks.query(partTables(), 1, asked + "x.a=1 or x.a=3 or y.a=7"), "10;10 @6");
        CHECKS.due("or and not", Checks.query(partTables(), 1, asked + "not x.a=2 and not (y.a=2 or y.a=3)"), "10 @4");
        CHECKS.due("not is a part", Checks.query(partTables(), 1, asked + "not (x.a=2 or y.a=2)"), "10 @6");
        CHECKS.due("the right operand", Checks.query(partTables(), 1, asked + "x.a=y.a and 1<y.b"), "10;20 @6");
        CHECKS.due("both operands", Checks.query(partTables(), 1, asked + "y.a=x.a and 1=2"), " @2");
        CHECKS.due("of item 3", Checks.query(partTables(), 1,
                "select x.b from T x join U y on 1=1 join V z on 1=1 where x.a=1 and z.a=1 and y.a=2"), "10 @5");
        CHECKS.due("is null has a column", Checks.query(partTables(), 1, asked + "y.a is null and x.a=1"), " @4");
        CHECKS.due("an item's or", Checks.query(partTables(), 2, "select x.a, y.a from T x join U y on x.a=y.a or x.a>1 and y.a<2"),
                "1 1;2 1;2 2 @6");
    }

    private static void plainResult() {
        QueryLoops x = object();
        CHECKS.due("nothing", Checks.query(x, 1, "select x.a from T x"), " @0");
        Checks.put(x, 0, 3, null);
        Checks.put(x, 0, 3, null);
        Checks.put(x, 0, null, 4);
        CHECKS.due("each found", Checks.query(x, 4, "select x.b, x.a, x.b, x.a from T x"), "? 3 ? 3;? 3 ? 3;4 ? 4 ? @3");
        CHECKS.due("run again", Checks.run(x), "3");
        CHECKS.due("rows", x.rows(), 3);
        CHECKS.due("isNull", x.isNull(0, 0), true);
        CHECKS.due("isNull", x.isNull(0, 1), false);
        CHECKS.due("result", x.result(2, 0), 4L);
        CHECKS.due("result of NULL", x.result(2, 1), 0L);
    }

    private static QueryLoops groupTables() {
        QueryLoops x = object();
        Checks.put(x, 0, 2, 5);
        Checks.put(x, 0, null, 1);
        Checks.put(x, 0, 1, null);
        Checks.put(x, 0, 2, -7);
        Checks.put(x, 0, null, null);
        Checks.put(x, 0, 0, 3);
        Checks.put(x, 0, 2, null);
        Checks.put(x, 2, 2);
        return x;
    }

    private static void groups() {
        CHECKS.due("no groups", Checks.query(object(), 2, "select x.a, count from T x group x.a"), " @0");
        CHECKS.due("all kinds", Checks.query(groupTables(), 4, "select x.a, count, sum(x.b), min(x.b) from T x group x.a"),
                "2 3 -2 -7;? 2 1 1;1 1 ? ?;0 1 3 3 @7");
        CHECKS.due("max", Checks.query(groupTables(), 2, "select max(x.b), max(x.a) from T x group x.a"), "5 2;1 ?;? 1;3 0 @7");
        CHECKS.due("without a count", Checks.query(groupTables(), 1, "select x.a from T x group x.a"), "2;?;1;0 @7");
        CHECKS.due("a column not out", Checks.query(groupTables(), 1, "select count from T x group x.a"), "3;2;1;1 @7");
        CHECKS.due("by two", Checks.query(groupTables(), 3, "select x.b, x.a, count from T x group x.a, x.b"),
                "5 2 1;1 ? 1;? 1 1;-7 2 1;? ? 1;3 0 1;? 2 1 @7");
        CHECKS.due("by the same twice", Checks.query(groupTables(), 2, "select count, x.a from T x group x.a, x.a"), "3 2;2 ?;1 1;1 0 @7");
        CHECKS.due("of a left item", Checks.query(groupTables(), 3, "select z.a, count, sum(x.b) from T x left V z on z.a=x.a group z.a"),
                "2 3 -2;? 4 4 @14");
        CHECKS.due("by three", Checks.query(groupTables(), 4,
                "select x.a, z.a, x.b, count from T x join V z on x.a=2 where x.b is null group z.a, x.b, x.a"), "2 2 ? 1 @10");
    }

    private static void gatheredWithoutGroup() {
        QueryLoops x = object();
        CHECKS.due("of nothing", Checks.query(x, 4, "select count, sum(x.a), min(x.a), max(x.a) from T x"), "0 ? ? ? @0");
        Checks.put(x, 0, null, 1);
        CHECKS.due("of NULL", Checks.query(x, 4, "select count, sum(x.a), min(x.a), max(x.a) from T x"), "1 ? ? ? @1");
        for (int n = 0; n < 3; n++) {
            Checks.put(x, 0, Integer.MAX_VALUE, Integer.MIN_VALUE);
        }
        CHECKS.due("beyond an int", Checks.query(x, 4, "select sum(x.a), sum(x.b), max(x.a), min(x.b) from T x"),
                "6442450941 -6442450943 2147483647 -2147483648 @4");
        CHECKS.due("none passes", Checks.query(x, 2, "select count, sum(x.b) from T x where x.b>1"), "0 ? @4");
        CHECKS.due("count only", Checks.query(x, 1, "select count from T x join T y on x.b=y.b join T z on y.b=z.b"), "28 @60");
        CHECKS.due("many found, one row", Checks.query(x, 1, "select count from T x join T y on 1=1 join T z on 1=1"), "64 @84");
    }

    private static QueryLoops stopTables(int rows) {
        QueryLoops x = object();
        for (int n = 0; n < 10; n++) {
            Checks.put(x, 0, n, n % 3);
        }
        for (int n = 0; n < rows; n++) {
            Checks.put(x, 1, n, n);
        }
        return x;
    }

    private static void stops() {
        QueryLoops x = stopTables(3);
        CHECKS.due("30 rows", Checks.query(x, 1, "select count from T x join U y on 1=1 group x.a, y.a").length(), 63);
        CHECKS.due("30 rows", x.rows(), 30);
        Checks.put(x, 1, 3, 3);
        CHECKS.due("31 rows", Checks.query(x, 1, "select x.a from T x join U y on 1=1"), STOPS + " @39");
        CHECKS.due("no result", x.rows(), 0);
        CHECKS.due("no value", x.result(0, 0), 0L);
        CHECKS.due("the query stays", Checks.run(x), STOPS);
        x.drop(1);
        CHECKS.due("with a row less", Checks.run(x), "30");
        CHECKS.due("looked", x.looked(), 40);
        CHECKS.due("value", x.result(29, 0), 9L);
        CHECKS.due("31 groups", Checks.query(stopTables(4), 1, "select count from T x join U y on 1=1 group x.a, y.a"), STOPS + " @39");
        CHECKS.due("3 groups of 40", Checks.query(stopTables(4), 2, "select x.b, count from T x join U y on 1=1 group x.b"),
                "0 16;1 12;2 12 @50");
        CHECKS.due("the largest", Checks.query(stopTables(0), 1, "select count from T x join T y on 1=1 join T z on 1=1"), "1000 @1110");
    }

    private static void looked() {
        QueryLoops x = object();
        Checks.put(x, 0, 1, 1);
        Checks.put(x, 0, 2, 2);
        Checks.compile(x, "select x.a from T x");
        CHECKS.due("not run yet", x.looked(), 0);
        Checks.run(x);
        CHECKS.due("run", x.looked(), 2);
        Checks.compile(x, "select x.a from U x");
        CHECKS.due("compiled since", x.looked(), 2);
        Checks.compile(x, "select");
        CHECKS.due("ill since", x.looked(), 2);
        CHECKS.due("no query", Checks.run(x), NO_QUERY);
        CHECKS.due("nothing was run", x.looked(), 2);
        Checks.compile(x, "select x.a from U x");
        Checks.run(x);
        CHECKS.due("an empty table", x.looked(), 0);
    }

    private static void outsideTheResult() {
        QueryLoops x = object();
        Checks.put(x, 0, 5, null);
        Checks.put(x, 0, null, 6);
        Checks.query(x, 2, "select x.a, x.b from T x");
        int[] rows = {Integer.MIN_VALUE, -1, 2, 29, 30, 31, Integer.MAX_VALUE};
        int[] columns = {Integer.MIN_VALUE, -1, 2, 3, 4, Integer.MAX_VALUE};
        for (int r : rows) {
            for (int k = -1; k <= 4; k++) {
                CHECKS.due("isNull(" + r + ", " + k + ")", x.isNull(r, k), false);
                CHECKS.due("result(" + r + ", " + k + ")", x.result(r, k), 0L);
            }
        }
        for (int k : columns) {
            for (int r = 0; r < 2; r++) {
                CHECKS.due("isNull(" + r + ", " + k + ")", x.isNull(r, k), false);
                CHECKS.due("result(" + r + ", " + k + ")", x.result(r, k), 0L);
            }
        }
        CHECKS.due("fewer outs", Checks.query(x, 1, "select x.b from T x"), "?;6 @2");
        CHECKS.due("the old one's second", x.isNull(1, 1), false);
    }

    private static void runsOnTheRowsOfThen() {
        QueryLoops x = object();
        Checks.put(x, 0, 1, 1);
        Checks.compile(x, "select x.a from T x");
        Checks.put(x, 0, 2, 2);
        CHECKS.due("both", Checks.run(x), "2");
        x.drop(0);
        CHECKS.due("the result stays", Checks.answer(x, 1), "1;2");
        CHECKS.due("one", Checks.run(x), "1");
        CHECKS.due("in place of the one before", Checks.answer(x, 1), "2");
        x.drop(0);
        CHECKS.due("none", Checks.run(x), "0");
        CHECKS.due("no rows", x.rows(), 0);
    }
}
