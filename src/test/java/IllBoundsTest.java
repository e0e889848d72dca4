import java.util.List;

/**
 * "Terms": at what a text whose syntax is right is ILL, on both sides: each thing that the document names has a
 * method of its own, with its words above it. Columns are tried wherever the syntax has one.
 */
public final class IllBoundsTest {
    private static final Checks CHECKS = new Checks("IllBoundsTest");

    public static void main(String[] args) {
        tableThatIsNotThere();
        tablesMayBeTheSame();
        aliasOfAnItemBefore();
        aliasThatNoItemHas();
        tableHasNoSuchColumn();
        tableOfAColumnIsNotThere();
        itemBehindInACondition();
        outThatIsNotOfTheGroup();
        outsOfTheGroup();
        columnsWithoutAGroup();
        firstOfSeveral();
        syntaxComesFirst();
        tablesAreLookedAtByCompile();
        behindAnIllCondition();
        CHECKS.end();
    }

    /** widths: how many columns T, U and V have, 0 for none there. */
    private static QueryLoops tables(int... widths) {
        QueryLoops x = new QueryLoops();
        for (int table = 0; table < widths.length; table++) {
            x.declare(table, widths[table]);
        }
        return x;
    }

    private static void right(int items, String text, int... widths) {
        CHECKS.right(tables(widths), items, text);
    }

    private static void ill(String marked, int... widths) {
        CHECKS.ill(tables(widths), marked);
    }

    // "a table that isn't there"
    private static void tableThatIsNotThere() {
        for (int table = 0; table < 3; table++) {
            int[] widths = {1, 1, 1};
            widths[table] = 0;
            char name = "TUV".charAt(table);
            String other = table == 0 ? "U" : "T";
            ill("select count from #" + name + " x", widths);
            ill("select count from " + other + " x join #" + name + " y on 1=1", widths);
            ill("select count from " + other + " x left #" + name + " y on 1=1", widths);
            ill("select count from " + other + " x join " + other + " y on 1=1 left #" + name + " z on 1=1", widths);
            right(1, "select count from " + name + " x", 1, 1, 1);
            right(3, "select count from " + other + " x join " + other + " y on 1=1 left " + name + " z on 1=1", 1, 1, 1);
        }
        ill("select count from #T x join U y on 1=1", 0, 0, 0);
    }

    private static void tablesMayBeTheSame() {
        right(2, "select x.a, y.a from T x join T y on x.a=y.a", 1);
        right(3, "select w.a from T w join T z on 1=1 left T y on 1=1", 1);
    }

    // "an alias of an item that another one had before"
    private static void aliasOfAnItemBefore() {
        for (String a : List.of("w", "x", "y", "z")) {
            ill("select count from T " + a + " join U #" + a + " on 1=1", 1, 1, 1);
            ill("select count from T " + a + " left T #" + a + " on 1=1", 1, 1, 1);
            for (String b : List.of("w", "x", "y", "z")) {
                if (!a.equals(b)) {
                    right(2, "select count from T " + a + " join U " + b + " on 1=1", 1, 1, 1);
                    ill("select count from T " + a + " join U " + b + " on 1=1 join V #" + a + " on 1=1", 1, 1, 1);
                    ill("select count from T " + a + " join U " + b + " on 1=1 join V #" + b + " on 1=1", 1, 1, 1);
                }
            }
            ill("select count from T " + a + " join U #" + a + " on 1=1 join V " + a + " on 1=1", 1, 1, 1);
        }
        right(3, "select count from T x join U y on 1=1 join V z on 1=1", 1, 1, 1);
    }

    /** Where a column may stand; it stands for %, and no group is asked for that would not hold it. */
    private static final List<String> PLACES = List.of("select % from T x", "select x.a,x.a,x.a,% from T x",
            "select sum(%) from T x", "select min(%) from T x", "select max(%) from T x",
            "select x.a from T x join U y on %=1", "select x.a from T x left U y on 1<%",
            "select x.a from T x join U y on % is null", "select x.a from T x join U y on 1=1 and not (1=2 or %>1)",
            "select x.a from T x join U y on 1=1 join V z on %=1", "select x.a from T x where %=x.a",
            "select x.a from T x where x.a=%", "select x.a from T x where not (1=1 and (1=2 or % is null))",
            "select count from T x group %", "select x.a from T x group x.a,%", "select x.a from T x group x.a,x.a,%");

    private static void everywhere(String wrong, String fine, int... widths) {
        for (String place : PLACES) {
            int items = 1 + place.split(" on ").length - 1;
            ill(place.replace("%", "#" + wrong), widths);
            right(items, place.replace("%", fine), widths);
        }
    }

    // "the alias of a column that no item has"
    private static void aliasThatNoItemHas() {
        everywhere("w.a", "x.a", 1, 1, 1);
        everywhere("w.d", "x.d", 4, 4, 4);
        ill("select #y.a from T x", 1, 1, 1);
        right(2, "select y.a from T x join U y on 1=1", 1, 1, 1);
        ill("select #z.a from T x join U y on 1=1", 1, 1, 1);
        right(3, "select z.a from T x join U y on 1=1 join V z on 1=1", 1, 1, 1);
    }

    // "or whose table has no such column"
    private static void tableHasNoSuchColumn() {
        everywhere("x.b", "x.a", 1, 4, 4);
        everywhere("x.c", "x.b", 2, 4, 4);
        everywhere("x.d", "x.c", 3, 4, 4);
        for (int width = 1; width <= 4; width++) {
            for (int k = 0; k < 4; k++) {
                String column = "y." + "abcd".charAt(k);
                if (k < width) {
                    right(2, "select " + column + " from T x join U y on " + column + "=1", 1, width, 1);
                } else {
                    ill("select #" + column + " from T x join U y on 1=1", 1, width, 1);
                    ill("select y.a from T x join U y on #" + column + "=1", 1, width, 1);
                }
            }
        }
    }

    // "(or isn't there)"
    private static void tableOfAColumnIsNotThere() {
        ill("select #x.a from T x", 0, 1, 1);
        ill("select sum(#x.a) from T x", 0, 1, 1);
        ill("select #y.a from T x join U y on 1=1", 1, 0, 1);
        ill("select x.a from T x join #U y on y.a=1", 1, 0, 1);
        ill("select x.a from T x join U y on #z.a=1 join V z on 1=1", 1, 1, 0);
        ill("select x.a from T x join U y on 1=1 join #V z on z.a=1", 1, 1, 0);
    }

    // "in the condition of an item, that of an item behind it"
    private static void itemBehindInACondition() {
        String[] conditions = {"%=1", "1=%", "% is null", "not %<1", "(1=1 and (%>1))", "1=1 or x.a=1 and %=x.a"};
        for (String c : conditions) {
            for (String word : List.of("join", "left")) {
                String begin = "select x.a from T x " + word + " U y on ";
                ill(begin + c.replace("%", "#z.a") + " " + word + " V z on 1=1", 1, 1, 1);
                right(3, begin + c.replace("%", "y.a") + " " + word + " V z on 1=1", 1, 1, 1);
                right(3, begin + c.replace("%", "x.a") + " " + word + " V z on 1=1", 1, 1, 1);
                right(3, begin + "1=1 " + word + " V z on " + c.replace("%", "z.a"), 1, 1, 1);
                right(3, begin + "1=1 " + word + " V z on " + c.replace("%", "y.a"), 1, 1, 1);
                right(3, begin + "1=1 " + word + " V z on " + c.replace("%", "x.a"), 1, 1, 1);
                right(3, begin + "1=1 " + word + " V z on 1=1 where " + c.replace("%", "z.a"), 1, 1, 1);
            }
        }
    }

    // "if the query has a group or a count, sum, min or max, in an out that is a column, its alias, if .."
    private static void outThatIsNotOfTheGroup() {
        for (String gathered : List.of("count", "sum(x.a)", "min(x.a)", "max(x.a)")) {
            ill("select #x.a," + gathered + " from T x", 2, 2, 2);
            ill("select " + gathered + ",#x.a from T x", 2, 2, 2);
            ill("select " + gathered + ",#x.a from T x group x.b", 2, 2, 2);
            right(1, "select " + gathered + ",x.a from T x group x.a", 2, 2, 2);
            right(1, "select " + gathered + " from T x group x.b", 2, 2, 2);
            right(1, "select " + gathered + " from T x", 2, 2, 2);
        }
        ill("select #x.a from T x group x.b", 2, 2, 2);
        ill("select x.b,#x.a from T x group x.b", 2, 2, 2);
        ill("select #y.a from T x join U y on 1=1 group x.a", 2, 2, 2);
        ill("select y.b,x.a,#x.b from T x join T y on 1=1 group x.a,y.a,y.b", 2, 2, 2);
    }

    private static void outsOfTheGroup() {
        right(1, "select x.a from T x group x.a", 4);
        right(1, "select x.c,x.a,x.b,x.c from T x group x.a,x.b,x.c", 4);
        ill("select x.c,x.a,x.b,#x.d from T x group x.a,x.b,x.c", 4);
        right(2, "select y.a,x.b from T x join T y on 1=1 group x.b,y.a", 4);
        ill("select #y.b,x.a from T x join T y on 1=1 group x.b,y.a", 4);
    }

    private static void columnsWithoutAGroup() {
        right(1, "select x.a,x.b,x.c,x.d from T x", 4);
        right(1, "select x.a from T x where x.b=1 or x.c is null", 4);
    }

    // "it is ILL at the first token of these"
    private static void firstOfSeveral() {
        ill("select #x.b, y.a from U x join T x on z.a=1", 1, 0, 1);
        ill("select x.a, #y.a from U x join T x on z.a=1", 1, 1, 1);
        ill("select x.a from T x join #U x on z.a=1", 1, 0, 1);
        ill("select x.a from T x join V #x on z.a=1", 1, 0, 1);
        ill("select x.a from T x join V y on #z.a=1 left U z on w.a=1", 1, 0, 1);
        ill("select x.a from T x join V y on 1=1 left #U z on w.a=1", 1, 0, 1);
        ill("select x.a from T x join V y on 1=1 left V z on #w.a=1 where x.b=1", 1, 0, 1);
        ill("select x.a from T x where #x.b=w.a group x.a,w.a", 1, 0, 1);
        ill("select x.a from T x where 1=1 group x.a,#w.a,x.b", 1, 0, 1);
        ill("select #x.a from T x join V x on 1=1 group x.b", 2, 2, 2);
        ill("select sum(x.a),#x.b from T x where x.c=1", 2, 2, 2);
        ill("select sum(#x.c),x.b from T x where x.c=1", 2, 2, 2);
    }

    // "If its syntax is right"
    private static void syntaxComesFirst() {
        ill("select x.a from U y join U y on w.a=1 where#", 1, 0, 0);
        ill("select x.d from T x #T", 1);
        ill("select x.a,count from T x #!", 1);
        ill("select x.a from T x join T x on y.a=1 left V x on 1=1 #join T x on 1=1", 1);
    }

    private static void tablesAreLookedAtByCompile() {
        QueryLoops x = tables(1);
        CHECKS.ill(x, "select #x.b from T x");
        Checks.text(x, "select x.b from T x");
        x.declare(0, 2);
        CHECKS.due("it has the column now", Checks.compile(x, ""), "1");
        Checks.text(x, "select x.b from T x");
        x.declare(0, 1);
        CHECKS.due("it hasn't now", Checks.compile(x, ""), "ill 7");
    }

    /** What may be asked for in one text doesn't hang on how far the text before was read. */
    private static void behindAnIllCondition() {
        String[] before = {"select x.a from T x join U y on", "select x.a from T x join U y on 1=1 join V z on ((((",
            "select x.a,count,sum(x.a),x.a,", "select x.a from T x group x.a,x.a,x.a,"};
        for (String text : before) {
            QueryLoops x = tables(1, 1, 1);
            CHECKS.due(text, Checks.compile(x, text).startsWith("ill"), true);
            CHECKS.right(x, 3, "select z.a,y.a,x.a,z.a from T x join U y on 1=1 join V z on ((((1=1)))) group x.a,y.a,z.a");
        }
    }
}
