/** Promises 2 to 6: declare, value, nothing, row, drop. */
public final class TablesTest {
    private static final Checks CHECKS = new Checks("TablesTest");
    private static final String ILLEGAL = "throws.IllegalArgumentException";
    private static final String FULL = "throws.IllegalStateException";

    public static void main(String[] args) {
        declare();
        declareAnew();
        values();
        row();
        rowTakesTheValuesInAnyCase();
        drop();
        CHECKS.end();
    }

    private static void declare() {
        QueryLoops x = new QueryLoops();
        int[] wrong = {Integer.MIN_VALUE, -1, 0, 5, Integer.MAX_VALUE};
        for (int columns : wrong) {
            CHECKS.due("declare(0, " + columns + ")", x.declare(0, columns), false);
        }
        int[] noTable = {Integer.MIN_VALUE, -1, 3, Integer.MAX_VALUE};
        for (int table : noTable) {
            CHECKS.due("declare(" + table + ", 1)", x.declare(table, 1), false);
        }
        CHECKS.due("nothing was declared", Checks.put(x, 0, 1), ILLEGAL);
        for (int table = 0; table < 3; table++) {
            for (int columns = 1; columns <= 4; columns++) {
                CHECKS.due("declare(" + table + ", " + columns + ")", x.declare(table, columns), true);
            }
            CHECKS.due("four columns", Checks.put(x, table, 1, 2, 3, 4), "1");
        }
    }

    private static void declareAnew() {
        QueryLoops x = new QueryLoops();
        x.declare(0, 2);
        Checks.put(x, 0, 1, 2);
        CHECKS.due("compile", Checks.compile(x, "select x.b from T x"), "1");
        CHECKS.due("declare false", x.declare(0, 5), false);
        CHECKS.due("the query stays", Checks.run(x), "1");
        CHECKS.due("another table", x.declare(1, 1), true);
        CHECKS.due("the query stays", Checks.run(x), "1");
        CHECKS.due("anew", x.declare(0, 2), true);
        CHECKS.due("no rows", x.drop(0), -1);
        CHECKS.due("no query", Checks.run(x), "throws.IllegalStateException");
        CHECKS.due("its result stays", Checks.answer(x, 1), "2");
        CHECKS.due("looked stays", x.looked(), 1);
        CHECKS.due("compile", Checks.compile(x, "select y.b from U x left T y on 1=1"), "2");
        CHECKS.due("the second item's table anew", x.declare(0, 2), true);
        CHECKS.due("no query", Checks.run(x), "throws.IllegalStateException");
    }

    private static void values() {
        QueryLoops x = new QueryLoops();
        for (int i = 0; i < 4; i++) {
            CHECKS.due("put " + i, i % 2 == 0 ? x.value(i) : x.nothing(), true);
        }
        CHECKS.due("value 5", x.value(9), false);
        CHECKS.due("nothing 5", x.nothing(), false);
        x.declare(2, 4);
        CHECKS.due("row", Checks.row(x, 2), "1");
        CHECKS.due("values", Checks.query(x, 4, "select w.a, w.b, w.c, w.d from V w"), "0 ? 2 ? @1");
        Checks.put(x, 2, Integer.MIN_VALUE, Integer.MAX_VALUE, null, -1);
        CHECKS.due("values", Checks.query(x, 4, "select w.a, w.b, w.c, w.d from V w"),
                "0 ? 2 ?;-2147483648 2147483647 ? -1 @2");
    }

    private static void row() {
        QueryLoops x = new QueryLoops();
        x.declare(1, 2);
        CHECKS.due("no values", Checks.put(x, 1), ILLEGAL);
        CHECKS.due("too few", Checks.put(x, 1, 1), ILLEGAL);
        CHECKS.due("too many", Checks.put(x, 1, 1, 2, 3), ILLEGAL);
        CHECKS.due("table -1", Checks.put(x, -1, 1, 2), ILLEGAL);
        CHECKS.due("table 3", Checks.put(x, 3, 1, 2), ILLEGAL);
        CHECKS.due("table not there", Checks.put(x, 0, 1, 2), ILLEGAL);
        for (int n = 1; n <= 10; n++) {
            CHECKS.due("row " + n, Checks.put(x, 1, n, null), "" + n);
        }
        CHECKS.due("row 11", Checks.put(x, 1, 11, 11), FULL);
        CHECKS.due("row 11 with a value too few", Checks.put(x, 1, 11), ILLEGAL);
        CHECKS.due("all in order", Checks.query(x, 1, "select x.a from U x"), "1;2;3;4;5;6;7;8;9;10 @10");
    }

    private static void rowTakesTheValuesInAnyCase() {
        QueryLoops x = new QueryLoops();
        x.declare(0, 1);
        Checks.put(x, 0, 7, 8);
        CHECKS.due("behind too many", Checks.put(x, 0, 1), "1");
        Checks.put(x, 2, 7);
        CHECKS.due("behind no such table", Checks.put(x, 0, 2), "2");
        CHECKS.due("behind a row", Checks.row(x, 0), ILLEGAL);
        for (int n = 3; n <= 10; n++) {
            Checks.put(x, 0, n);
        }
        CHECKS.due("full", Checks.put(x, 0, 11), FULL);
        x.drop(0);
        CHECKS.due("behind full", Checks.put(x, 0, 12), "10");
        CHECKS.due("rows", Checks.query(x, 1, "select x.a from T x"), "2;3;4;5;6;7;8;9;10;12 @10");
        x.value(5);
        x.declare(0, 2);
        CHECKS.due("declare leaves the values", Checks.put(x, 0, 6), "1");
        CHECKS.due("rows", Checks.query(x, 2, "select x.a, x.b from T x"), "5 6 @1");
    }

    private static void drop() {
        QueryLoops x = new QueryLoops();
        x.declare(0, 2);
        x.declare(2, 1);
        Checks.put(x, 2, 30);
        CHECKS.due("no row", x.drop(0), -1);
        Checks.put(x, 0, 1, null);
        Checks.put(x, 0, null, 2);
        Checks.put(x, 0, 3, 3);
        CHECKS.due("first", x.drop(0), 2);
        CHECKS.due("left", Checks.query(x, 2, "select x.a, x.b from T x"), "? 2;3 3 @2");
        CHECKS.due("append behind", Checks.put(x, 0, 4, null), "3");
        CHECKS.due("left", Checks.query(x, 2, "select x.a, x.b from T x"), "? 2;3 3;4 ? @3");
        CHECKS.due("second", x.drop(0), 2);
        CHECKS.due("third", x.drop(0), 1);
        CHECKS.due("last", x.drop(0), 0);
        CHECKS.due("none", x.drop(0), -1);
        int[] noTable = {Integer.MIN_VALUE, -1, 1, 3, Integer.MAX_VALUE};
        for (int table : noTable) {
            CHECKS.due("drop(" + table + ")", x.drop(table), -1);
        }
        CHECKS.due("the other table", Checks.query(x, 1, "select x.a from V x"), "30 @1");
    }
}
