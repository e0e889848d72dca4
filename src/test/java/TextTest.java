/** Promises 7 to 9: ask, compile, place; with tokens, syntax and what is ILL. */
public final class TextTest {
    private static final Checks CHECKS = new Checks("TextTest");

    public static void main(String[] args) {
        ask();
        compile();
        tokens();
        syntax();
        limits();
        meaning();
        CHECKS.end();
    }

    /** All three tables with two columns, and a row in T. */
    private static QueryLoops tables() {
        QueryLoops x = new QueryLoops();
        for (int table = 0; table < 3; table++) {
            x.declare(table, 2);
        }
        Checks.put(x, 0, 1, 2);
        return x;
    }

    private static void right(int items, String text) {
        CHECKS.right(tables(), items, text);
    }

    private static void ill(String marked) {
        CHECKS.ill(tables(), marked);
    }

    private static void ask() {
        QueryLoops x = new QueryLoops();
        char[] outside = {0, 9, 10, 31, 127, 128, 255, 256, 0x20 + 0x100, 0xffff};
        for (char c : outside) {
            CHECKS.due("ask " + (int) c, x.ask(c), false);
        }
        CHECKS.due("nothing was appended", Checks.compile(x, ""), "ill 0");
        for (int c = 32; c <= 126; c++) {
            CHECKS.due("ask " + c, x.ask((char) c), true);
        }
        for (int n = 95; n < 130; n++) {
            CHECKS.due("ask at " + n, x.ask(' '), true);
        }
        CHECKS.due("the 131st", x.ask(' '), false);
        QueryLoops y = tables();
        String text = "select x.a from T x";
        CHECKS.due("130 characters", Checks.compile(y, text + " ".repeat(130 - text.length())), "1");
        CHECKS.due("the 131st is left out", Checks.compile(y, " ".repeat(130 - text.length()) + text + "#"), "1");
        CHECKS.due("130 blanks", Checks.compile(y, " ".repeat(130)), "ill 130");
    }

    private static void compile() {
        QueryLoops x = tables();
        CHECKS.due("ill", Checks.compile(x, "select x"), "ill 8");
        CHECKS.due("no query", Checks.run(x), "throws.IllegalStateException");
        CHECKS.due("the text is empty then", Checks.compile(x, "select x.b from T x"), "1");
        CHECKS.due("place", x.place(), -1);
        CHECKS.due("and then", Checks.run(x), "1");
        CHECKS.due("result", Checks.answer(x, 1), "2");
        CHECKS.due("the text was taken", Checks.compile(x, "select x.a from T x"), "1");
        CHECKS.due("no result then", x.rows(), 0);
        CHECKS.due("nor a value", x.result(0, 0), 0L);
        Checks.run(x);
        CHECKS.due("ill", Checks.compile(x, ""), "ill 0");
        CHECKS.due("no result then", x.rows(), 0);
        CHECKS.due("no query then", Checks.run(x), "throws.IllegalStateException");
        Checks.text(x, "select");
        CHECKS.due("place is of the latest compile", x.place(), 0);
        CHECKS.due("the text goes on", Checks.compile(x, " x.a from U x join V y on x.b = y.b"), "2");
        CHECKS.due("ill in an item's condition", Checks.compile(x, "select x.a from T x join U y on"), "ill 31");
        CHECKS.due("nothing of it stays", Checks.compile(x, "select z.a from T x join U y on 1=1 join V z on 1=1"), "3");
        Checks.text(x, "!");
        CHECKS.due("the query stays while a text is asked", Checks.run(x), "0");
        CHECKS.due("no place", x.place(), -1);
    }

    private static void tokens() {
        right(1, "select x.a from T x");
        right(1, "   select   x . a   from   T   x   ");
        right(1, "select x.a,x.b from Tx");
        right(1, "select count from T x where 1=1and-1<x.a or null is null");
        right(1, "select sum(x.a),min(x.a),max(x.a),count from T x where(x.a=-0)and not(x.b>999999)");
        right(1, "select x.a from T x where 000001=1and 2=-999999");
        right(1, "select x.a fromTx");
        ill("select x.a #froms T x");
        ill("#selectx.a from T x");
        ill("#Select x.a from T x");
        ill("select #xx.a from T x");
        ill("select x.#aa from T x");
        ill("select x.a from T#T x");
        ill("select x.a from #S x");
        ill("select x.a from #W x");
        ill("select x.a from #t x");
        ill("select x.a from T #X");
        ill("select x.a #* from T x");
        ill("#!select");
        ill("select x.a from T x where x.a = #1234567");
        ill("select x.a from T x where x.a = #-1234567");
        ill("select x.a from T x where #0000000 = 1");
        ill("select x.a from T x where x.a = #-");
        ill("select x.a from T x where x.a = #- 1");
        ill("select x.a from T x where x.a = #--1");
        ill("select x.a from T x where x.a = #-a");
        ill("select x.a from T x where x.a = #+1");
        ill("select x.a from T x where x.a = 1#-1");
        ill("select x.a from T x where x.a = 1#.0");
        ill("select x.a from T x #1234567");
        ill("select x.a from T x #\"");
        ill("select x.a #x.b from T x $");
        ill("select x.a, #select 1234567 !");
    }

    private static void syntax() {
        ill("#");
        ill("    #");
        ill("select#");
        ill("select #from T x");
        ill("select x.a, #from T x");
        ill("select x.a, #, x.b from T x");
        ill("select #null from T x");
        ill("select #1 from T x");
        ill("select #T from T x");
        ill("select #v.a from T v");
        ill("select x#,a from T x");
        ill("select x.#e from T x");
        ill("select x.#x from T x");
        ill("select x.#A from T x");
        ill("select count#(x.a) from T x");
        ill("select sum #x.a from T x");
        ill("select sum #x.a) from T x");
        ill("select max#, count from T x");
        ill("select sum(#count) from T x");
        ill("select sum(x.a#, x.b) from T x");
        ill("select max(x.a #from T x");
        ill("select min(#) from T x");
        ill("select x.a#");
        ill("select x.a from#");
        ill("select x.a from T#");
        ill("select x.a from T #where x.a=1");
        ill("select x.a from T #a");
        ill("select x.a from T x#, U y");
        ill("select x.a from T x #on x.a=1");
        ill("select x.a from T x join#");
        ill("select x.a from T x join U y #where x.a=1");
        ill("select x.a from T x left #join U y on x.a=1");
        ill("select x.a from T x join U y on#");
        ill("select x.a from T x join U y on #join V z on 1=1");
        ill("select x.a from T x join U y on x.a = y.a #x.a");
        ill("select x.a from T x where#");
        ill("select x.a from T x where #group x.a");
        ill("select x.a from T x where x.a#");
        ill("select x.a from T x where x.a #and x.b=1");
        ill("select x.a from T x where x.a is#");
        ill("select x.a from T x where x.a is #not null");
        ill("select x.a from T x where x.a is #1");
        ill("select x.a from T x where x.a = #not 1");
        ill("select x.a from T x where x.a = #=1");
        ill("select x.a from T x where x.a <#>1");
        ill("select x.a from T x where x.a =#");
        ill("select x.a from T x where x.a = 1 #= 1");
        ill("select x.a from T x where (x.a = 1#");
        ill("select x.a from T x where (x.a = 1 #group x.a");
        ill("select x.a from T x where (x.a #) = 1");
        ill("select x.a from T x where x.a = 1#)");
        ill("select x.a from T x where (#)");
        ill("select x.a from T x where #or x.a = 1");
        ill("select x.a from T x where x.a = 1 or #or x.a = 1");
        ill("select x.a from T x where x.a = 1 and #and x.a = 1");
        ill("select x.a from T x where not#");
        ill("select x.a from T x where not #group x.a");
        ill("select x.a from T x where x.a = 1 or #group x.a");
        ill("select x.a from T x where x.a = 1 and #group x.a");
        ill("select x.a from T x join U y on x.a = 1 or #where x.a = 1");
        ill("select x.a from T x join U y on x.a = 1 and #where x.a = 1");
        ill("select x.a from T x where (x.a = 1 or #) group x.a");
        ill("select x.a from T x where (x.a = 1 and #) group x.a");
        ill("select x.a from T x where x.a = 1 #where x.a = 1");
        ill("select x.a from T x where x.a = 1 #join U y on 1=1");
        ill("select x.a from T x group#");
        ill("select x.a from T x group #count");
        ill("select x.a from T x group x.a #x.b");
        ill("select x.a from T x group x.a,#");
        ill("select x.a from T x group x.a #where x.a=1");
        ill("select x.a from T x #select");
        right(2, "select x.a, y.b from T x left U y on x.a = y.a where not x.a = 1 or (y.b is null and 1 < 2) group y.b, x.a");
        right(3, "select w.a from T w join T x on w.a=x.a left T z on z.b>w.b where null is null");
    }

    private static void limits() {
        right(1, "select x.a,x.a,x.b,x.b from T x");
        ill("select x.a,x.a,x.b,x.b#,x.a from T x");
        ill("select x.a,x.a,x.b,x.b#,");
        ill("select count,count,count,count#,!");
        right(1, "select x.a from T x group x.a,x.b,x.a");
        ill("select x.a from T x group x.a,x.b,x.a#,x.b");
        right(3, "select x.a from T x join T y on 1=1 left T z on 1=1");
        ill("select x.a from T x join T y on 1=1 left T z on 1=1 #join T w on 1=1");
        ill("select x.a from T x join T y on 1=1 left T z on 1=1 #left");
        right(1, "select x.a from T x where not not not not x.a=1");
        ill("select x.a from T x where not not not not #not x.a=1");
        right(1, "select x.a from T x where ((((x.a=1))))");
        ill("select x.a from T x where ((((#(x.a=1)))))");
        ill("select x.a from T x where not(not(#(x.a=1)))");
        ill("select x.a from T x where (not(not #not x.a=1))");
        right(1, "select x.a from T x where (not(not x.a=1)) and (not(not x.a=1)) or not((not x.a=1))");
        right(1, "select x.a from T x where (not(not x.a=1 and (1=1)))");
        ill("select x.a from T x where (not(not x.a=1 and (#(1=1))))");
        right(1, "select x.a from T x where not not not not 1=1 and not not not not 1=1 or((((1=1))))");
        right(2, "select x.a from T x join T y on ((((1=1)))) where ((((1=1))))");
        ill("select x.a from T x join T y on ((((#(1=1))))) where ((((1=1))))");
    }

    private static void meaning() {
        ill("select #x.c from T x");
        ill("select #y.a from T x");
        ill("select sum(#x.d) from T x");
        ill("select x.a from T x join U #x on x.a=1");
        ill("select x.a from T x join U y on #z.a=1 join V z on z.a=1");
        ill("select x.a from T x join U y on #w.a=1");
        ill("select x.a from T x join U y on y.a=1 and y.b>#y.c");
        right(3, "select z.a from T x join U y on y.a=x.a join V z on z.a=x.b or z.a=y.b");
        ill("select x.a from T x where #y.a is null");
        ill("select x.a from T x where not (x.a=1 or #x.c=1)");
        ill("select #x.a from T x group y.a");
        ill("select count from T x group #y.a");
        ill("select count from T x group #x.c");
        ill("select count, #x.a from T x");
        ill("select #x.a, count from T x");
        ill("select x.a, #x.b from T x group x.a");
        right(1, "select x.a, x.b from T x group x.b, x.a");
        right(1, "select count, sum(x.b), x.a from T x group x.a");
        right(1, "select x.a from T x group x.a, x.b");
        ill("select x.a, #y.a, max(y.a) from T x join U y on 1=1 group x.a, y.b");
        ill("select #x.b, y.c from T x join U x on 1=1 group x.a");
        absentTables();
        firstAlias();
        CHECKS.due("syntax comes first", Checks.compile(tables(), "select q.a from T x"), "ill 7");
        CHECKS.due("syntax comes first", Checks.compile(tables(), "select y.a from T x where"), "ill 25");
    }

    private static void absentTables() {
        QueryLoops x = new QueryLoops();
        x.declare(0, 1);
        CHECKS.due("no table", Checks.compile(x, "select count from U x"), "ill 18");
        CHECKS.due("no table, its column first", Checks.compile(x, "select x.a from U x"), "ill 7");
        CHECKS.due("no second table", Checks.compile(x, "select x.a from T x join V x on x.a=1"), "ill 25");
        CHECKS.due("its column", Checks.compile(x, "select x.a from T x join T y on y.b=1 join V z on z.a=1"), "ill 32");
        CHECKS.due("one column", Checks.compile(x, "select x.a from T x where x.b=1"), "ill 26");
        x.declare(1, 1);
        CHECKS.due("there now", Checks.compile(x, "select x.a from U x"), "1");
    }

    private static void firstAlias() {
        QueryLoops x = new QueryLoops();
        x.declare(0, 1);
        x.declare(1, 4);
        CHECKS.due("an alias is the first item's", Checks.compile(x, "select x.d from T x join U x on 1=1"), "ill 7");
        CHECKS.due("an alias is the first item's", Checks.compile(x, "select x.d from U x join T x on 1=1"), "ill 27");
        CHECKS.due("the second of three", Checks.compile(x, "select x.a from T x join T y on 1=1 join T y on 1=1"), "ill 43");
    }
}
