import java.util.Arrays;

/**
 * The boundary cases of promises 10 to 14 and of running and the result in "Terms", on both sides: each sentence
 * of the document that names one has a method of its own, with the sentence above it.
 */
public final class RunBoundsTest {
    private static final Checks CHECKS = new Checks("RunBoundsTest");
    private static final String NO_QUERY = "throws.IllegalStateException";
    private static final String STOPS = "throws.UnsupportedOperationException";
    // Some of them come to a place inside the result if they are multiplied by 4 in an int.
    private static final int[] OUTSIDE = {Integer.MIN_VALUE, Integer.MIN_VALUE + 1, -4, -1, 31, 120, 1 << 29,
        (1 << 30) - 1, 1 << 30, (1 << 30) + 1, Integer.MAX_VALUE};

    public static void main(String[] args) {
        runWithoutAQuery();
        tableDeclaredAnew();
        otherTableDeclaredAnew();
        onTheRowsOfThen();
        resultInPlaceOfTheOneBefore();
        queryInPlaceOfTheOneBefore();
        thirtyAndThirtyOneRows();
        thirtyAndThirtyOneGroups();
        thirtyOneFoundInThirtyGroups();
        noStopForOneRowOfAll();
        stopsAtTheNullRow();
        stopLeavesNoResult();
        looksOnBehindTheThirtieth();
        lookedIsNoneAtFirst();
        lookedAfterAStop();
        lookedAfterOtherCalls();
        rowsWithoutAResult();
        isNullOutside();
        resultOutside();
        resultOfNull();
        nothingFoundWithoutAGroup();
        nothingFoundWithAGroup();
        nothingFoundForOneRowOfAll();
        onlyNullsToGather();
        nullIsTheSameAsNull();
        groupsInTheOrderFound();
        extremeNumbers();
        sumsBeyondAnInt();
        leftItemOfAnEmptyTable();
        leftItemOfWhichNoRowFits();
        fittedButNotPassed();
        nullRowMustPass();
        nullRowIsNotLookedAt();
        twoLeftItems();
        partsOfTheLastItem();
        partsOfNoColumn();
        partsOrOneCondition();
        threeTruths();
        CHECKS.end();
    }

    /** A table with one column, with these numbers in it. */
    private static void fill(QueryLoops x, int table, Integer... numbers) {
        x.declare(table, 1);
        for (Integer n : numbers) {
            Checks.put(x, table, n == null ? new Integer[1] : new Integer[] {n});
        }
    }

    private static QueryLoops counted(int... heights) {
        QueryLoops x = new QueryLoops();
        for (int table = 0; table < heights.length; table++) {
            x.declare(table, 1);
            for (int n = 1; n <= heights[table]; n++) {
                Checks.put(x, table, n);
            }
        }
        return x;
    }

    // P10 "IllegalStateException: there is no query"
    private static void runWithoutAQuery() {
        QueryLoops x = new QueryLoops();
        CHECKS.due("a new object", Checks.run(x), NO_QUERY);
        fill(x, 0, 5);
        CHECKS.due("none compiled", Checks.run(x), NO_QUERY);
        Checks.compile(x, "select x.b from T x");
        CHECKS.due("an ill one compiled", Checks.run(x), NO_QUERY);
        Checks.compile(x, "select x.a from T x");
        CHECKS.due("one compiled", Checks.run(x), "1");
        CHECKS.due("and once more", Checks.run(x), "1");
    }

    // Terms "if one of its tables is declared anew, there is no query any more (its result stays)"
    private static void tableDeclaredAnew() {
        for (int table = 0; table < 3; table++) {
            QueryLoops x = counted(1, 2, 3);
            CHECKS.due("a result", Checks.query(x, 2, "select z.a,y.a from T x join U y on 1=1 join V z on y.a=z.a"),
                    "1 1;2 2 @9");
            CHECKS.due("with as many columns", x.declare(table, 1), true);
            CHECKS.due("its result stays", Checks.answer(x, 2), "1 1;2 2");
            CHECKS.due("its looked stays", x.looked(), 9);
            CHECKS.due("no query of item " + table, Checks.run(x), NO_QUERY);
            CHECKS.due("its result stays", Checks.answer(x, 2), "1 1;2 2");
            CHECKS.due("a row makes no query", Checks.put(x, table, 1), "1");
            CHECKS.due("no query", Checks.run(x), NO_QUERY);
            CHECKS.due("its result is gone", Checks.compile(x, "select count from T x"), "1");
            CHECKS.due("its result is gone", x.rows(), 0);
            CHECKS.due("a new query", Checks.run(x), "1");
        }
    }

    private static void otherTableDeclaredAnew() {
        QueryLoops x = counted(2, 2, 2);
        Checks.compile(x, "select x.a from T x left V y on 1=1");
        x.declare(1, 4);
        CHECKS.due("U isn't one of its tables", Checks.run(x), "4");
        CHECKS.due("refused", x.declare(0, 5) || x.declare(2, 0) || x.declare(3, 1), false);
        CHECKS.due("nothing was declared anew", Checks.run(x), "4");
        x.declare(2, 1);
        CHECKS.due("V is", Checks.run(x), NO_QUERY);
        Checks.compile(x, "select count from U x");
        x.declare(0, 1);
        x.declare(2, 1);
        CHECKS.due("tables of the query before", Checks.run(x), "1");
    }

    // Terms "A query is run on the rows that its tables have then"
    private static void onTheRowsOfThen() {
        QueryLoops x = counted(0);
        Checks.compile(x, "select x.a from T x");
        CHECKS.due("none", Checks.run(x), "0");
        for (int n = 1; n <= 10; n++) {
            Checks.put(x, 0, n);
            CHECKS.due("with " + n, Checks.run(x), "" + n);
            CHECKS.due("the last", x.result(n - 1, 0), (long) n);
        }
        for (int n = 9; n >= 0; n--) {
            x.drop(0);
            CHECKS.due("the result stays", x.rows(), n + 1);
            CHECKS.due("with " + n, Checks.run(x), "" + n);
            CHECKS.due("the first", x.result(0, 0), n == 0 ? 0L : 11L - n);
        }
    }

    // P10 "how many rows the result has, in place of the one before"
    private static void resultInPlaceOfTheOneBefore() {
        QueryLoops x = counted(3);
        CHECKS.due("three", Checks.query(x, 1, "select x.a from T x"), "1;2;3 @3");
        x.drop(0);
        CHECKS.due("two", Checks.run(x), "2");
        CHECKS.due("these alone", Checks.answer(x, 1), "2;3");
        CHECKS.due("the third isn't there", x.result(2, 0), 0L);
    }

    // P8: a query leaves nothing behind in the next one
    private static void queryInPlaceOfTheOneBefore() {
        QueryLoops x = counted(2, 3);
        CHECKS.due("a group", Checks.query(x, 2, "select count,x.a from T x left U y on y.a>x.a where y.a=3 group x.a"),
                "1 1;1 2 @8");
        CHECKS.due("none", Checks.query(x, 1, "select count from T x"), "2 @2");
        CHECKS.due("no count", Checks.query(x, 1, "select x.a from T x"), "1;2 @2");
        CHECKS.due("one that is ill", Checks.compile(x, "select count from T x join U y on x.a=1 and 1=2 or"), "ill 50");
        CHECKS.due("joined, not left", Checks.query(x, 1, "select y.a from T x join U y on y.a>2"), "3;3 @8");
        CHECKS.due("one item again", Checks.query(x, 3, "select x.a,x.a,x.a from U x where x.a>1"), "2 2 2;3 3 3 @3");
    }

    // Terms "A result has at most 30 rows", P10 "UnsupportedOperationException: it STOPS"
    private static void thirtyAndThirtyOneRows() {
        CHECKS.due("30", Checks.query(counted(10, 3), 0, "select x.a from T x join U y on 1=1").endsWith(" @40"), true);
        CHECKS.due("30 of 31", sizeOf(counted(10, 10), "x.a<4"), "30 @110");
        CHECKS.due("the 31st", sizeOf(counted(10, 10), "x.a<4 or x.a=10 and y.a=10"), STOPS + " @110");
        CHECKS.due("the 31st of 40", sizeOf(counted(10, 10), "x.a<5"), STOPS + " @35");
        CHECKS.due("the 31st of 100", sizeOf(counted(10, 10), "1=1"), STOPS + " @35");
        CHECKS.due("29", sizeOf(counted(10, 10), "x.a<3 or x.a=10 and y.a<10"), "29 @110");
    }

    private static String sizeOf(QueryLoops x, String condition) {
        Checks.compile(x, "select x.a,y.a from T x join U y on " + condition);
        return Checks.run(x) + " @" + x.looked();
    }

    private static void thirtyAndThirtyOneGroups() {
        String text = "select x.a,y.a,count from T x join U y on 1=1 group x.a,y.a";
        QueryLoops x = counted(10, 3);
        Checks.compile(x, text);
        CHECKS.due("30 groups", Checks.run(x), "30");
        CHECKS.due("the last", x.result(29, 0) + " " + x.result(29, 1) + " " + x.result(29, 2), "10 3 1");
        Checks.put(x, 1, 4);
        CHECKS.due("the 31st", Checks.run(x), STOPS);
        CHECKS.due("looked", x.looked(), 39);
        CHECKS.due("no result", x.rows(), 0);
    }

    private static void thirtyOneFoundInThirtyGroups() {
        QueryLoops x = counted(10, 2);
        Checks.put(x, 1, 3);
        Checks.put(x, 1, 3);
        Checks.compile(x, "select count from T x join U y on 1=1 group y.a,x.a");
        CHECKS.due("40 in 30 groups", Checks.run(x), "30");
        CHECKS.due("looked", x.looked(), 50);
        CHECKS.due("the first", x.result(0, 0), 1L);
        CHECKS.due("the last", x.result(29, 0), 2L);
    }

    private static void noStopForOneRowOfAll() {
        String three = " from T x join T y on 1=1 join T z on 1=1";
        CHECKS.due("1000 found", Checks.query(counted(10), 2, "select count,sum(z.a)" + three), "1000 5500 @1110");
        QueryLoops x = new QueryLoops();
        fill(x, 0, 7, 7, 7, 7, 7, 7, 7, 7, 7, 7);
        CHECKS.due("1000 in one group", Checks.query(x, 2, "select x.a,count" + three + " group x.a"), "7 1000 @1110");
    }

    private static void stopsAtTheNullRow() {
        String text = "select x.a from T x left U y on x.a<4";
        QueryLoops x = counted(3, 10);
        CHECKS.due("30 without one", Checks.query(x, 0, text).endsWith(" @33"), true);
        CHECKS.due("30 without one", x.rows(), 30);
        Checks.put(x, 0, 4);
        CHECKS.due("the 31st is the one all NULL", Checks.run(x), STOPS);
        CHECKS.due("behind all ten", x.looked(), 44);
    }

    // P10 "it STOPS (there is no result then)"
    private static void stopLeavesNoResult() {
        QueryLoops x = counted(10, 3);
        Checks.compile(x, "select x.a,y.a from T x join U y on 1=1");
        CHECKS.due("30", Checks.run(x), "30");
        Checks.put(x, 1, 4);
        CHECKS.due("stops", Checks.run(x), STOPS);
        CHECKS.due("rows", x.rows(), 0);
        for (int r = 0; r < 31; r++) {
            CHECKS.due("result", x.result(r, 0), 0L);
            CHECKS.due("isNull", x.isNull(r, 1), false);
        }
        CHECKS.due("place", x.place(), -1);
        CHECKS.due("the query is still there", Checks.run(x), STOPS);
        x.drop(1);
        CHECKS.due("with a row less", Checks.run(x), "30");
        CHECKS.due("the last", x.result(29, 1), 4L);
    }

    private static void looksOnBehindTheThirtieth() {
        CHECKS.due("none behind", sizeOf(counted(10, 10), "x.a<4"), "30 @110");
        CHECKS.due("the 30th is the last looked at", sizeOf(counted(10, 3), "1=1"), "30 @40");
    }

    // P11 "0 if there was none"
    private static void lookedIsNoneAtFirst() {
        QueryLoops x = new QueryLoops();
        CHECKS.due("a new object", x.looked(), 0);
        Checks.run(x);
        CHECKS.due("a run without a query", x.looked(), 0);
        fill(x, 0, 1, 2);
        Checks.compile(x, "select x.a from T x");
        CHECKS.due("compiled, not run", x.looked(), 0);
        Checks.run(x);
        CHECKS.due("run", x.looked(), 2);
    }

    // P11 "also if it stopped"
    private static void lookedAfterAStop() {
        QueryLoops x = counted(10, 10, 10);
        Checks.compile(x, "select x.a from T x join U y on 1=1 join V z on 1=1");
        CHECKS.due("stops", Checks.run(x), STOPS);
        CHECKS.due("looked", x.looked(), 1 + 4 + 31);
        Checks.compile(x, "select x.a from T x join U y on y.a=10 join V z on z.a=10 where x.a=10");
        CHECKS.due("one", Checks.run(x), "1");
        CHECKS.due("looked", x.looked(), 10 + 10 + 10);
    }

    // P11 "or another query was compiled since"
    private static void lookedAfterOtherCalls() {
        QueryLoops x = counted(3, 1);
        Checks.compile(x, "select x.a from T x");
        Checks.run(x);
        Checks.compile(x, "select count from U x");
        CHECKS.due("compiled", x.looked(), 3);
        Checks.compile(x, "select");
        CHECKS.due("an ill one compiled", x.looked(), 3);
        Checks.run(x);
        CHECKS.due("no query to run", x.looked(), 3);
        x.declare(0, 1);
        x.drop(1);
        CHECKS.due("declared and dropped", x.looked(), 3);
        Checks.compile(x, "select count from U x");
        Checks.run(x);
        CHECKS.due("a run that looked at nothing", x.looked(), 0);
    }

    // P12 "0 without one"
    private static void rowsWithoutAResult() {
        QueryLoops x = counted(2);
        CHECKS.due("a new object", x.rows(), 0);
        Checks.compile(x, "select x.a from T x");
        CHECKS.due("not run", x.rows(), 0);
        Checks.run(x);
        CHECKS.due("run", x.rows(), 2);
        Checks.compile(x, "select x.a from T x");
        CHECKS.due("compiled again", x.rows(), 0);
        Checks.run(x);
        Checks.compile(x, "");
        CHECKS.due("ill", x.rows(), 0);
    }

    private static QueryLoops nulls(int outs) {
        QueryLoops x = new QueryLoops();
        fill(x, 0, null, null);
        Checks.compile(x, "select " + "x.a,x.a,x.a,x.a".substring(0, 4 * outs - 1) + " from T x");
        Checks.run(x);
        return x;
    }

    // P13 "false if it isn't there"
    private static void isNullOutside() {
        CHECKS.due("no result", new QueryLoops().isNull(0, 0), false);
        for (int outs = 1; outs <= 4; outs++) {
            QueryLoops x = nulls(outs);
            for (int r = -2; r <= 4; r++) {
                for (int k = -2; k <= 6; k++) {
                    boolean there = r >= 0 && r < 2 && k >= 0 && k < outs;
                    CHECKS.due("isNull(" + r + ", " + k + ") of " + outs, x.isNull(r, k), there);
                }
            }
            for (int far : OUTSIDE) {
                CHECKS.due("row " + far, x.isNull(far, 0), false);
                CHECKS.due("value " + far, x.isNull(0, far), false);
                CHECKS.due("both " + far, x.isNull(far, far), false);
            }
        }
    }

    // P14 "or isn't there"
    private static void resultOutside() {
        CHECKS.due("no result", new QueryLoops().result(0, 0), 0L);
        for (int outs = 1; outs <= 4; outs++) {
            QueryLoops x = counted(2);
            Checks.compile(x, "select " + "x.a,x.a,x.a,x.a".substring(0, 4 * outs - 1) + " from T x");
            Checks.run(x);
            for (int r = -2; r <= 4; r++) {
                for (int k = -2; k <= 6; k++) {
                    boolean there = r >= 0 && r < 2 && k >= 0 && k < outs;
                    CHECKS.due("result(" + r + ", " + k + ") of " + outs, x.result(r, k), there ? r + 1L : 0L);
                }
            }
            for (int far : OUTSIDE) {
                CHECKS.due("row " + far, x.result(far, 0), 0L);
                CHECKS.due("value " + far, x.result(0, far), 0L);
                CHECKS.due("both " + far, x.result(far, far), 0L);
            }
        }
    }

    // P14 "0 if it is NULL"
    private static void resultOfNull() {
        QueryLoops x = new QueryLoops();
        fill(x, 0, 5, null, 0);
        Checks.query(x, 1, "select x.a from T x");
        CHECKS.due("five", x.result(0, 0) + " " + x.isNull(0, 0), "5 false");
        CHECKS.due("NULL", x.result(1, 0) + " " + x.isNull(1, 0), "0 true");
        CHECKS.due("nought", x.result(2, 0) + " " + x.isNull(2, 0), "0 false");
        x.drop(0);
        Checks.run(x);
        CHECKS.due("NULL where five was", x.result(0, 0) + " " + x.isNull(0, 0), "0 true");
    }

    // Terms "for each that is found, in order, a row"
    private static void nothingFoundWithoutAGroup() {
        CHECKS.due("an empty table", Checks.query(counted(0), 1, "select x.a from T x"), " @0");
        CHECKS.due("none passes", Checks.query(counted(3), 1, "select x.a from T x where x.a>3"), " @3");
        CHECKS.due("one passes", Checks.query(counted(3), 1, "select x.a from T x where x.a>2"), "3 @3");
        CHECKS.due("an empty second", Checks.query(counted(3, 0), 1, "select x.a from T x join U y on 1=1"), " @3");
        CHECKS.due("none fits", Checks.query(counted(3, 1), 1, "select x.a from T x join U y on 1=2"), " @6");
    }

    // Terms "a row for each GROUP of those found"
    private static void nothingFoundWithAGroup() {
        String text = "select x.a,count,sum(x.a) from T x where x.a>2 group x.a";
        CHECKS.due("an empty table", Checks.query(counted(0), 3, text), " @0");
        CHECKS.due("none passes", Checks.query(counted(2), 3, text), " @2");
        CHECKS.due("one passes", Checks.query(counted(3), 3, text), "3 1 3 @3");
        CHECKS.due("count alone", Checks.query(counted(2), 1, "select count from T x where x.a>2 group x.a"), " @2");
        CHECKS.due("no rows", runOf(counted(0), "select count from T x group x.a"), "0");
    }

    private static String runOf(QueryLoops x, String text) {
        Checks.compile(x, text);
        return Checks.run(x);
    }

    // Terms "without group one row for all, also if nothing is found", "NULL if there are none"
    private static void nothingFoundForOneRowOfAll() {
        String text = "select count,sum(x.a),min(x.a),max(x.a) from T x where x.a>2";
        CHECKS.due("an empty table", Checks.query(counted(0), 4, text), "0 ? ? ? @0");
        CHECKS.due("none passes", Checks.query(counted(2), 4, text), "0 ? ? ? @2");
        CHECKS.due("one passes", Checks.query(counted(3), 4, text), "1 3 3 3 @3");
        for (String out : new String[] {"count", "sum(x.a)", "min(x.a)", "max(x.a)"}) {
            CHECKS.due("one row", runOf(counted(0), "select " + out + " from T x"), "1");
            QueryLoops x = counted(2);
            runOf(x, "select " + out + " from T x where 1=2");
            CHECKS.due(out + " is NULL", x.isNull(0, 0), !out.equals("count"));
            CHECKS.due(out, x.result(0, 0), 0L);
        }
    }

    // Terms "sum, min, max are of the values that are not NULL, NULL if there are none"
    private static void onlyNullsToGather() {
        String text = "select count,sum(x.a),min(x.a),max(x.a) from T x";
        QueryLoops x = new QueryLoops();
        fill(x, 0, null, null);
        CHECKS.due("NULL alone", Checks.query(x, 4, text), "2 ? ? ? @2");
        Checks.put(x, 0, -5);
        CHECKS.due("and one", Checks.query(x, 4, text), "3 -5 -5 -5 @3");
        fill(x, 0, -5, null);
        CHECKS.due("NULL behind it", Checks.query(x, 4, text), "2 -5 -5 -5 @2");
        fill(x, 0, null, 0);
        CHECKS.due("nought isn't NULL", Checks.query(x, 4, text), "2 0 0 0 @2");
    }

    // Terms "(NULL being the same as NULL)"
    private static void nullIsTheSameAsNull() {
        QueryLoops x = new QueryLoops();
        fill(x, 0, null, 0, null, 0, 1);
        CHECKS.due("NULL, 0 and 1", Checks.query(x, 2, "select x.a,count from T x group x.a"), "? 2;0 2;1 1 @5");
        x.declare(1, 2);
        Checks.put(x, 1, null, 0);
        Checks.put(x, 1, 0, null);
        Checks.put(x, 1, null, null);
        Checks.put(x, 1, null, 0);
        Checks.put(x, 1, 0, 0);
        CHECKS.due("by two", Checks.query(x, 3, "select x.a,x.b,count from U x group x.a,x.b"),
                "? 0 2;0 ? 1;? ? 1;0 0 1 @5");
        CHECKS.due("but not by =", Checks.query(x, 1, "select count from U x where x.a=x.a"), "2 @5");
    }

    // Terms "in the order in which the first of each is found"
    private static void groupsInTheOrderFound() {
        QueryLoops x = new QueryLoops();
        fill(x, 0, 3, 1, 3, 2, 1, 3);
        CHECKS.due("3, 1, 2", Checks.query(x, 2, "select x.a,count from T x group x.a"), "3 3;1 2;2 1 @6");
        CHECKS.due("a group not found", Checks.query(x, 1, "select x.a from T x where x.a<3 group x.a"), "1;2 @6");
    }

    private static void extremeNumbers() {
        QueryLoops x = new QueryLoops();
        x.declare(0, 2);
        Checks.put(x, 0, Integer.MIN_VALUE, Integer.MAX_VALUE);
        CHECKS.due("less", Checks.query(x, 1, "select count from T x where x.a<x.b"), "1 @1");
        CHECKS.due("greater", Checks.query(x, 1, "select count from T x where x.b>x.a"), "1 @1");
        CHECKS.due("not the same", Checks.query(x, 1, "select count from T x where x.b=x.a"), "0 @1");
        CHECKS.due("to a numeral", Checks.query(x, 1, "select count from T x where x.a<-999999 and 999999<x.b"), "1 @1");
        Checks.put(x, 0, Integer.MAX_VALUE, Integer.MIN_VALUE);
        CHECKS.due("min and max", Checks.query(x, 4, "select min(x.a),max(x.a),min(x.b),sum(x.a) from T x"),
                "-2147483648 2147483647 -2147483648 -1 @2");
        CHECKS.due("groups", Checks.query(x, 1, "select x.a from T x group x.a"), "-2147483648;2147483647 @2");
    }

    // Terms "sum": no wrap-around where an int would have one
    private static void sumsBeyondAnInt() {
        Integer[] low = new Integer[10];
        Integer[] high = new Integer[10];
        Arrays.fill(low, Integer.MIN_VALUE);
        Arrays.fill(high, Integer.MAX_VALUE);
        QueryLoops x = new QueryLoops();
        fill(x, 0, low);
        fill(x, 1, high);
        String three = " x join T y on 1=1 join U z on 1=1";
        CHECKS.due("least", Checks.query(x, 1, "select sum(x.a) from T" + three), "-2147483648000 @1110");
        CHECKS.due("greatest", Checks.query(x, 1, "select sum(x.a) from U" + three), "2147483647000 @1110");
        fill(x, 0, Integer.MAX_VALUE, 1);
        CHECKS.due("one more than an int", Checks.query(x, 1, "select sum(x.a) from T x"), "2147483648 @2");
        fill(x, 0, Integer.MIN_VALUE, -1);
        CHECKS.due("one less", Checks.query(x, 1, "select sum(x.a) from T x"), "-2147483649 @2");
    }

    // Terms "When a left item has been gone through and no row fitted, there is one more, all NULL"
    private static void leftItemOfAnEmptyTable() {
        CHECKS.due("left", Checks.query(counted(2, 0), 2, "select x.a,y.a from T x left U y on 1=1"), "1 ?;2 ? @2");
        CHECKS.due("join", Checks.query(counted(2, 0), 2, "select x.a,y.a from T x join U y on 1=1"), " @2");
        CHECKS.due("no row before it", Checks.query(counted(0, 2), 2, "select x.a,y.a from T x left U y on 1=1"), " @0");
        QueryLoops x = counted(1);
        x.declare(1, 4);
        CHECKS.due("all NULL", Checks.query(x, 4, "select y.a,y.b,y.c,y.d from T x left U y on 1=1"), "? ? ? ? @1");
    }

    private static void leftItemOfWhichNoRowFits() {
        CHECKS.due("none", Checks.query(counted(1, 3), 2, "select x.a,y.a from T x left U y on y.a>3"), "1 ? @4");
        CHECKS.due("one", Checks.query(counted(1, 3), 2, "select x.a,y.a from T x left U y on y.a>2"), "1 3 @4");
        CHECKS.due("the first", Checks.query(counted(1, 3), 2, "select x.a,y.a from T x left U y on y.a<2"), "1 1 @4");
        CHECKS.due("unknown", Checks.query(counted(1, 3), 2, "select x.a,y.a from T x left U y on y.a=null"), "1 ? @4");
        CHECKS.due("each by itself", Checks.query(counted(4, 3), 2, "select x.a,y.a from T x left U y on x.a<y.a"),
                "1 2;1 3;2 3;3 ?;4 ? @16");
        CHECKS.due("joined, none", Checks.query(counted(1, 3), 2, "select x.a,y.a from T x join U y on y.a>3"), " @4");
    }

    // Terms "it FITS if the condition of the item is true": a row that fits need not pass
    private static void fittedButNotPassed() {
        String text = "select x.a,y.a from T x left U y on y.a=2 where ";
        CHECKS.due("fits, doesn't pass", Checks.query(counted(1, 3), 2, text + "y.a=3"), " @4");
        CHECKS.due("fits and passes", Checks.query(counted(1, 3), 2, text + "y.a=2"), "1 2 @4");
        CHECKS.due("fits, so no NULL row", Checks.query(counted(1, 3), 2, text + "y.a is null"), " @4");
        CHECKS.due("no row to fit", Checks.query(counted(1, 1), 2, text + "y.a is null"), "1 ? @2");
    }

    // Terms "it passes if all parts that belong to the item are true for it"
    private static void nullRowMustPass() {
        String text = "select x.a,y.a from T x left U y on 1=2 where ";
        CHECKS.due("unknown", Checks.query(counted(1, 1), 2, text + "y.a=1"), " @2");
        CHECKS.due("unknown turned", Checks.query(counted(1, 1), 2, text + "not y.a=1"), " @2");
        CHECKS.due("false", Checks.query(counted(1, 1), 2, text + "not y.a is null"), " @2");
        CHECKS.due("true", Checks.query(counted(1, 1), 2, text + "y.a is null"), "1 ? @2");
        CHECKS.due("one of two", Checks.query(counted(1, 1), 2, text + "y.a is null and y.a<x.a"), " @2");
        CHECKS.due("both", Checks.query(counted(1, 1), 2, text + "y.a is null and (y.a<x.a or x.a=1)"), "1 ? @2");
        CHECKS.due("none belongs to it", Checks.query(counted(1, 1), 2, text + "x.a=1"), "1 ? @2");
    }

    // Terms "which isn't looked at"
    private static void nullRowIsNotLookedAt() {
        CHECKS.due("3 and none", Checks.query(counted(3, 0), 1, "select x.a from T x left U y on 1=1"), "1;2;3 @3");
        CHECKS.due("3 and 3 of 2", Checks.query(counted(3, 2), 1, "select x.a from T x left U y on 1=2"), "1;2;3 @9");
        CHECKS.due("the next item is looked at", Checks.query(counted(1, 1, 2), 2,
                "select y.a,z.a from T x left U y on 1=2 join V z on 1=1"), "? 1;? 2 @4");
    }

    private static void twoLeftItems() {
        String text = "select x.a,y.a,z.a from T x left U y on x.a=y.a left V z on y.a=z.a";
        CHECKS.due("both empty", Checks.query(counted(1, 0, 0), 3, text), "1 ? ? @1");
        CHECKS.due("the last empty", Checks.query(counted(2, 1, 0), 3, text), "1 1 ?;2 ? ? @4");
        CHECKS.due("NULL fits nothing", Checks.query(counted(2, 1, 3), 3, text), "1 1 1;2 ? ? @10");
        CHECKS.due("NULL may fit", Checks.query(counted(2, 1, 2), 3,
                "select x.a,y.a,z.a from T x left U y on x.a=y.a left V z on y.a is null"), "1 1 ?;2 ? 1;2 ? 2 @8");
    }

    // Terms "A part BELONGS to the last item (in their order) of which it has a column"
    private static void partsOfTheLastItem() {
        String text = "select x.a from T x join U y on 1=1 join V z on 1=1 where ";
        String[] first = {"x.a=9", "9=x.a", "x.a is null", "not (x.a=1 or 1<2)"};
        String[] second = {"y.a=9", "9=y.a", "x.a=9 or y.a=9", "y.a=9 or x.a=9", "x.a>y.a", "y.a<x.a", "y.a is null"};
        String[] third = {"z.a=9", "9=z.a", "x.a>z.a", "z.a>y.a or x.a=9", "(z.a=9 or x.a=9) or y.a=9", "z.a is null"};
        for (String part : first) {
            CHECKS.due(part, Checks.query(counted(1, 1, 1), 1, text + part), " @1");
        }
        for (String part : second) {
            CHECKS.due(part, Checks.query(counted(1, 1, 1), 1, text + part), " @2");
        }
        for (String part : third) {
            CHECKS.due(part, Checks.query(counted(1, 1, 1), 1, text + part), " @3");
        }
    }

    // Terms "to the first one if it has none"
    private static void partsOfNoColumn() {
        String text = "select x.a from T x join U y on 1=1 where ";
        CHECKS.due("false", Checks.query(counted(2, 3), 1, text + "1=2"), " @2");
        CHECKS.due("unknown", Checks.query(counted(2, 3), 1, text + "null=1"), " @2");
        CHECKS.due("true", Checks.query(counted(2, 1), 1, text + "null is null"), "1;2 @4");
        CHECKS.due("with one of item 2", Checks.query(counted(2, 3), 1, text + "y.a=1 and 1=2"), " @2");
        CHECKS.due("in one part with it", Checks.query(counted(2, 3), 1, text + "(y.a=1 and 1=2)"), " @8");
    }

    // Terms "its tests if it is one conjunction (a test in parentheses is one), else it is one part itself"
    private static void partsOrOneCondition() {
        String text = "select y.a from T x join U y on 1=1 where ";
        CHECKS.due("two tests", Checks.query(counted(2, 2), 1, text + "x.a=1 and y.a=1"), "1 @4");
        CHECKS.due("in parentheses", Checks.query(counted(2, 2), 1, text + "(x.a=1 and y.a=1)"), "1 @6");
        CHECKS.due("each in parentheses", Checks.query(counted(2, 2), 1, text + "(x.a=1) and ((y.a=1))"), "1 @4");
        CHECKS.due("or inside one", Checks.query(counted(2, 2), 1, text + "(x.a=1 or x.a=3) and y.a=1"), "1 @4");
        CHECKS.due("or outside", Checks.query(counted(2, 2), 1, text + "x.a=1 and y.a=1 or 1=2"), "1 @6");
        CHECKS.due("or first", Checks.query(counted(2, 2), 1, text + "1=2 or x.a=1 and y.a=1"), "1 @6");
        CHECKS.due("or of item 1", Checks.query(counted(2, 2), 1, text + "x.a=1 or x.a=7"), "1;2 @4");
        CHECKS.due("not of both", Checks.query(counted(2, 2), 1, text + "not (x.a=2 or y.a=2)"), "1 @6");
        CHECKS.due("not of item 1", Checks.query(counted(2, 2), 1, text + "not x.a=2 and not y.a=2"), "1 @4");
        CHECKS.due("in an item's condition no row is spared", Checks.query(counted(2, 2), 1,
                "select y.a from T x join U y on x.a=1 and y.a=1"), "1 @6");
    }

    // Terms "TRUTH is true, false or unknown": all pairs
    private static void threeTruths() {
        String[] tests = {"1=2", "1=null", "1=1"};
        for (int a = 0; a < 3; a++) {
            truth("not " + tests[a], 2 - a);
            for (int b = 0; b < 3; b++) {
                truth(tests[a] + " and " + tests[b], Math.min(a, b));
                truth(tests[a] + " or " + tests[b], Math.max(a, b));
                truth("not (" + tests[a] + " and " + tests[b] + ")", 2 - Math.min(a, b));
                truth("not (" + tests[a] + " or " + tests[b] + ")", 2 - Math.max(a, b));
                truth(tests[a] + " or not " + tests[b], Math.max(a, 2 - b));
                for (int c = 0; c < 3; c++) {
                    truth(tests[a] + " or " + tests[b] + " and " + tests[c], Math.max(a, Math.min(b, c)));
                    truth(tests[a] + " and " + tests[b] + " or " + tests[c], Math.max(Math.min(a, b), c));
                }
            }
        }
        for (String sign : new String[] {"=", "<", ">"}) {
            truth("null" + sign + "null", 1);
            truth("null" + sign + "1", 1);
            truth("1" + sign + "null", 1);
            truth("1" + sign + "1", sign.equals("=") ? 2 : 0);
            truth("1" + sign + "2", sign.equals("<") ? 2 : 0);
            truth("2" + sign + "1", sign.equals(">") ? 2 : 0);
        }
        truth("null is null", 2);
        truth("1 is null", 0);
    }

    /** truth: 0 false, 1 unknown, 2 true; as a where condition and as an item's, as it is and turned. */
    private static void truth(String condition, int truth) {
        String where = "select count from T x where ";
        String on = "select count from T x join T y on ";
        String turned = "not (" + condition + ")";
        CHECKS.due(condition, Checks.query(counted(1), 1, where + condition), (truth == 2 ? 1 : 0) + " @1");
        CHECKS.due(turned, Checks.query(counted(1), 1, where + turned), (truth == 0 ? 1 : 0) + " @1");
        CHECKS.due("on " + condition, Checks.query(counted(1), 1, on + condition), (truth == 2 ? 1 : 0) + " @2");
        CHECKS.due("on " + turned, Checks.query(counted(1), 1, on + turned), (truth == 0 ? 1 : 0) + " @2");
    }
}
