/**
 * The boundary cases of promises 1 to 6 and of the tables in "Terms", on both sides: each sentence of the
 * document that names one has a method of its own, with the sentence above it.
 */
public final class TableBoundsTest {
    private static final Checks CHECKS = new Checks("TableBoundsTest");
    private static final String ILLEGAL = "throws.IllegalArgumentException";
    private static final String FULL = "throws.IllegalStateException";
    private static final String NO_QUERY = "throws.IllegalStateException";
    // The last of them become 0 if they are multiplied by 4, 8 or 40 in an int.
    private static final int[] NO_TABLES = {Integer.MIN_VALUE, -3, -2, -1, 3, 4, Integer.MAX_VALUE, 1 << 30, 1 << 29};
    private static final int[] NO_COLUMNS = {Integer.MIN_VALUE, -4, -1, 0, 5, 6, Integer.MAX_VALUE, (1 << 30) + 1};

    public static void main(String[] args) {
        noTablesAtFirst();
        noQueryAtFirst();
        noTextAtFirst();
        noValuesAtFirst();
        noSuchTableToDeclare();
        columnsOneToFour();
        refusedDeclareLeavesAll();
        declaredInPlaceOfTheOneBefore();
        declareLeavesTheOtherTables();
        columnsAreNamedInOrder();
        fifthValue();
        fifthNothing();
        fifthLeavesTheFour();
        anyIntOrNull();
        rowOfNoSuchTable();
        rowOfTooFewOrTooMany();
        eleventhRow();
        wrongCountForAFullTable();
        valuesAreGoneInAnyCase();
        refusedRowLeavesTheTable();
        dropOfNoSuchTable();
        dropOfNoSuchRow();
        dropTakesTheFirst();
        dropMakesRoom();
        dropLeavesTheValues();
        CHECKS.end();
    }

    private static QueryLoops withTable(int table, int columns, int rows) {
        QueryLoops x = new QueryLoops();
        x.declare(table, columns);
        for (int r = 1; r <= rows; r++) {
            for (int k = 1; k <= columns; k++) {
                x.value(10 * r + k);
            }
            x.row(table);
        }
        return x;
    }

    private static String firstColumn(QueryLoops x, int table) {
        return Checks.query(x, 1, "select x.a from " + "TUV".charAt(table) + " x");
    }

    // P1 "No tables"
    private static void noTablesAtFirst() {
        for (int table = 0; table < 3; table++) {
            QueryLoops x = new QueryLoops();
            CHECKS.due("drop", x.drop(table), -1);
            for (int n = 0; n <= 4; n++) {
                CHECKS.due("row of " + n, Checks.put(x, table, new Integer[n]), ILLEGAL);
            }
            CHECKS.ill(x, "select count from #" + "TUV".charAt(table) + " x");
            x.declare(table, 1);
            CHECKS.right(x, 1, "select count from " + "TUV".charAt(table) + " x");
        }
    }

    // P1 "no query"
    private static void noQueryAtFirst() {
        QueryLoops x = new QueryLoops();
        CHECKS.due("run", Checks.run(x), NO_QUERY);
        x.declare(0, 1);
        CHECKS.due("run with a table", Checks.run(x), NO_QUERY);
        Checks.text(x, "select count from T x");
        CHECKS.due("run with a text", Checks.run(x), NO_QUERY);
        CHECKS.due("compile", Checks.compile(x, ""), "1");
        CHECKS.due("run", Checks.run(x), "1");
    }

    // P1 "no text"
    private static void noTextAtFirst() {
        CHECKS.ill(new QueryLoops(), "#");
        CHECKS.right(withTable(0, 1, 0), 1, "select x.a from T x");
    }

    // P3: the first row is of the first values
    private static void noValuesAtFirst() {
        QueryLoops x = withTable(0, 1, 0);
        CHECKS.due("no values", Checks.row(x, 0), ILLEGAL);
        CHECKS.due("one value", Checks.put(x, 0, 5), "1");
    }

    // P2 "false if there is no such table"
    private static void noSuchTableToDeclare() {
        QueryLoops x = new QueryLoops();
        for (int table : NO_TABLES) {
            for (int columns = 1; columns <= 4; columns++) {
                CHECKS.due("declare(" + table + ", " + columns + ")", x.declare(table, columns), false);
            }
        }
        CHECKS.ill(x, "select count from #T x");
        for (int table = 0; table <= 2; table++) {
            CHECKS.due("declare(" + table + ", 1)", x.declare(table, 1), true);
            CHECKS.due("it is there", Checks.put(x, table, 1), "1");
        }
    }

    // P2 "or columns isn't 1 .. 4"
    private static void columnsOneToFour() {
        for (int table = 0; table <= 2; table++) {
            QueryLoops x = new QueryLoops();
            for (int columns : NO_COLUMNS) {
                CHECKS.due("declare(" + table + ", " + columns + ")", x.declare(table, columns), false);
            }
            CHECKS.due("it isn't there", Checks.put(x, table, 1), ILLEGAL);
            for (int columns = 1; columns <= 4; columns++) {
                CHECKS.due("declare(" + table + ", " + columns + ")", x.declare(table, columns), true);
                CHECKS.due("a row of them", Checks.put(x, table, new Integer[columns]), "1");
            }
        }
    }

    // P2: a call that is refused changes nothing
    private static void refusedDeclareLeavesAll() {
        QueryLoops x = withTable(0, 2, 2);
        x.value(7);
        CHECKS.due("before", firstColumn(x, 0), "11;21 @2");
        for (int columns : NO_COLUMNS) {
            x.declare(0, columns);
        }
        for (int table : NO_TABLES) {
            x.declare(table, 2);
        }
        CHECKS.due("the result stays", Checks.answer(x, 1), "11;21");
        CHECKS.due("the query and the rows stay", Checks.run(x), "2");
        CHECKS.due("the columns and the value stay", Checks.put(x, 0, 8), "3");
    }

    // P2 "and no rows, in place of the one that was there"
    private static void declaredInPlaceOfTheOneBefore() {
        for (int before = 1; before <= 4; before++) {
            for (int behind = 1; behind <= 4; behind++) {
                QueryLoops x = withTable(1, before, 10);
                CHECKS.due("declare", x.declare(1, behind), true);
                CHECKS.due("no rows", x.drop(1), -1);
                CHECKS.due("nothing to look at", firstColumn(x, 1), " @0");
                CHECKS.due("its columns", Checks.put(x, 1, new Integer[behind]), "1");
                CHECKS.due("as many as it has now", behind == before
                        || Checks.put(x, 1, new Integer[before]).equals(ILLEGAL), true);
            }
        }
    }

    private static void declareLeavesTheOtherTables() {
        QueryLoops x = withTable(1, 1, 3);
        x.declare(0, 4);
        x.declare(2, 4);
        CHECKS.due("U", firstColumn(x, 1), "11;21;31 @3");
    }

    // Terms "1 to 4 COLUMNS, named a .. d in order"
    private static void columnsAreNamedInOrder() {
        for (int columns = 1; columns <= 4; columns++) {
            QueryLoops x = withTable(2, columns, 1);
            for (int k = 0; k < 4; k++) {
                String text = "select #x." + "abcd".charAt(k) + " from V x";
                if (k < columns) {
                    CHECKS.due(text, Checks.query(x, 1, text.replace("#", "")), (11 + k) + " @1");
                } else {
                    CHECKS.ill(x, text);
                }
            }
        }
    }

    // P3 "false if there are four"
    private static void fifthValue() {
        for (int mask = 0; mask < 16; mask++) {
            QueryLoops x = new QueryLoops();
            for (int n = 0; n < 4; n++) {
                CHECKS.due("value " + n, (mask >> n & 1) == 0 ? x.value(n) : x.nothing(), true);
            }
            CHECKS.due("the fifth", x.value(9), false);
            CHECKS.due("and again", x.value(9), false);
        }
    }

    // P4 "false if there are four"
    private static void fifthNothing() {
        for (int mask = 0; mask < 16; mask++) {
            QueryLoops x = new QueryLoops();
            for (int n = 0; n < 4; n++) {
                CHECKS.due("nothing " + n, (mask >> n & 1) == 0 ? x.nothing() : x.value(n), true);
            }
            CHECKS.due("the fifth", x.nothing(), false);
            CHECKS.due("and again", x.nothing(), false);
        }
    }

    private static void fifthLeavesTheFour() {
        QueryLoops x = withTable(0, 4, 0);
        for (int n = 0; n < 4; n++) {
            CHECKS.due("put", n == 2 ? x.nothing() : x.value(n + 1), true);
        }
        x.value(9);
        x.nothing();
        CHECKS.due("four", Checks.row(x, 0), "1");
        CHECKS.due("as they were", Checks.query(x, 4, "select x.a,x.b,x.c,x.d from T x"), "1 2 ? 4 @1");
        for (int n = 0; n < 4; n++) {
            CHECKS.due("room again", x.value(n), true);
        }
        CHECKS.due("full again", x.value(4), false);
    }

    // Terms "each with an int or NULL in every column"
    private static void anyIntOrNull() {
        int[] ints = {Integer.MIN_VALUE, Integer.MIN_VALUE + 1, -1000000, -1, 0, 1, 1000000, Integer.MAX_VALUE};
        for (int v : ints) {
            QueryLoops x = withTable(0, 4, 0);
            CHECKS.due("row", Checks.put(x, 0, v, null, null, v), "1");
            CHECKS.due("value(" + v + ")", Checks.query(x, 4, "select x.a,x.b,x.c,x.d from T x"),
                    v + " ? ? " + v + " @1");
        }
    }

    // P5 "IllegalArgumentException: there is no such table"
    private static void rowOfNoSuchTable() {
        QueryLoops x = withTable(1, 2, 1);
        for (int table : NO_TABLES) {
            for (int n = 0; n <= 4; n++) {
                CHECKS.due("row(" + table + ")", Checks.put(x, table, new Integer[n]), ILLEGAL);
            }
        }
        CHECKS.due("T isn't declared", Checks.put(x, 0, 1, 2), ILLEGAL);
        CHECKS.due("V isn't declared", Checks.put(x, 2, 1, 2), ILLEGAL);
        CHECKS.due("U is", Checks.put(x, 1, 1, 2), "2");
    }

    // P5 "or the values aren't as many as its columns"
    private static void rowOfTooFewOrTooMany() {
        for (int columns = 1; columns <= 4; columns++) {
            QueryLoops x = withTable(2, columns, 0);
            for (int n = 0; n <= 4; n++) {
                CHECKS.due(n + " for " + columns, Checks.put(x, 2, new Integer[n]), n == columns ? "1" : ILLEGAL);
            }
            CHECKS.due("one row", x.drop(2), 0);
        }
    }

    // P5 "IllegalStateException: it has 10 rows", Terms "at most 10 ROWS"
    private static void eleventhRow() {
        for (int table = 0; table <= 2; table++) {
            for (int columns = 1; columns <= 4; columns++) {
                QueryLoops x = withTable(table, columns, 9);
                CHECKS.due("the tenth", Checks.put(x, table, new Integer[columns]), "10");
                CHECKS.due("the eleventh", Checks.put(x, table, new Integer[columns]), FULL);
                CHECKS.due("and again", Checks.put(x, table, new Integer[columns]), FULL);
                CHECKS.due("ten are there", x.drop(table), 9);
            }
        }
    }

    /** Both exceptions would fit; the document names IllegalArgumentException first. */
    private static void wrongCountForAFullTable() {
        QueryLoops x = withTable(0, 2, 10);
        for (int n = 0; n <= 4; n++) {
            CHECKS.due(n + " for a full one", Checks.put(x, 0, new Integer[n]), n == 2 ? FULL : ILLEGAL);
        }
    }

    // P5 "(there are none then, in any case)"
    private static void valuesAreGoneInAnyCase() {
        QueryLoops x = withTable(0, 2, 9);
        x.declare(1, 3);
        CHECKS.due("no such table", Checks.put(x, 3, 1), ILLEGAL);
        CHECKS.due("none then", Checks.put(x, 1, 1, 2, 3), "1");
        CHECKS.due("not declared", Checks.put(x, 2, 1), ILLEGAL);
        CHECKS.due("none then", Checks.put(x, 1, 1, 2, 3), "2");
        CHECKS.due("too few", Checks.put(x, 0, 1), ILLEGAL);
        CHECKS.due("none then", Checks.put(x, 1, 1, 2, 3), "3");
        CHECKS.due("too many", Checks.put(x, 0, 1, 2, 3), ILLEGAL);
        CHECKS.due("none then", Checks.put(x, 1, 1, 2, 3), "4");
        CHECKS.due("taken", Checks.put(x, 0, 1, 2), "10");
        CHECKS.due("none then", Checks.put(x, 1, 1, 2, 3), "5");
        CHECKS.due("full", Checks.put(x, 0, 1, 2), FULL);
        CHECKS.due("none then", Checks.put(x, 1, 1, 2, 3), "6");
        CHECKS.due("none then", Checks.row(x, 1), ILLEGAL);
        for (int n = 0; n < 4; n++) {
            CHECKS.due("room for four", x.nothing(), true);
        }
    }

    private static void refusedRowLeavesTheTable() {
        QueryLoops x = withTable(0, 1, 10);
        Checks.put(x, 0, 99);
        Checks.put(x, 0, 98, 97);
        Checks.put(x, 0);
        CHECKS.due("full as before", firstColumn(x, 0), "11;21;31;41;51;61;71;81;91;101 @10");
    }

    // P6 "NONE if there is no such table"
    private static void dropOfNoSuchTable() {
        QueryLoops x = withTable(0, 1, 2);
        for (int table : NO_TABLES) {
            CHECKS.due("drop(" + table + ")", x.drop(table), -1);
        }
        CHECKS.due("U isn't declared", x.drop(1), -1);
        CHECKS.due("V isn't declared", x.drop(2), -1);
        CHECKS.due("nothing was dropped", firstColumn(x, 0), "11;21 @2");
    }

    // P6 "or row"
    private static void dropOfNoSuchRow() {
        for (int table = 0; table <= 2; table++) {
            QueryLoops x = withTable(table, 1, 0);
            CHECKS.due("empty", x.drop(table), -1);
            CHECKS.due("the first row", Checks.put(x, table, 5), "1");
            CHECKS.due("the last one", x.drop(table), 0);
            CHECKS.due("empty again", x.drop(table), -1);
            CHECKS.due("the table is still there", Checks.put(x, table, 6), "1");
            CHECKS.due("with this row", firstColumn(x, table), "6 @1");
        }
    }

    // P6 "Takes the first row of a table away: how many are left"
    private static void dropTakesTheFirst() {
        QueryLoops x = withTable(1, 1, 10);
        for (int left = 9; left >= 0; left--) {
            CHECKS.due("left", x.drop(1), left);
            if (left == 9) {
                CHECKS.due("nine", firstColumn(x, 1), "21;31;41;51;61;71;81;91;101 @9");
            } else if (left == 1) {
                CHECKS.due("one", firstColumn(x, 1), "101 @1");
            }
        }
        CHECKS.due("none", firstColumn(x, 1), " @0");
    }

    private static void dropMakesRoom() {
        QueryLoops x = withTable(0, 1, 10);
        for (int n = 1; n <= 25; n++) {
            CHECKS.due("full", Checks.put(x, 0, -n), FULL);
            CHECKS.due("drop", x.drop(0), 9);
            CHECKS.due("room for one", Checks.put(x, 0, n), "10");
        }
        CHECKS.due("in order", firstColumn(x, 0), "16;17;18;19;20;21;22;23;24;25 @10");
    }

    private static void dropLeavesTheValues() {
        QueryLoops x = withTable(0, 2, 1);
        x.value(3);
        x.drop(0);
        x.drop(0);
        CHECKS.due("one and another", Checks.put(x, 0, 4), "1");
        CHECKS.due("both", Checks.query(x, 2, "select x.a,x.b from T x"), "3 4 @1");
    }
}
