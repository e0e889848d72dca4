import java.util.ArrayList;
import java.util.List;

/**
 * The boundary cases of promises 7 to 9 and of the texts, tokens and syntax in "Terms", on both sides: each
 * sentence of the document that names one has a method of its own, with the sentence above it.
 */
public final class TextBoundsTest {
    private static final Checks CHECKS = new Checks("TextBoundsTest");
    private static final String PLAIN = "select x.a from T x";
    private static final String WHERE = PLAIN + " where ";

    public static void main(String[] args) {
        codes32To126();
        refusedCodesLeaveTheText();
        at130Characters();
        the131stIsLeftOut();
        textIsEmptyBehindCompile();
        noResultBehindCompile();
        noQueryBehindAnIllText();
        placeNoneIfThereWasNone();
        placeIsOfTheLatest();
        howManyItems();
        blanksAsOneLikes();
        wordsAsLongAsTheyGo();
        capitalsOneByOne();
        charactersThatBeginNoToken();
        charactersAsTheTokensAreNeeded();
        oneToSixDigits();
        sevenDigitsAtTheBeginning();
        minusWithNoDigitBehind();
        numbersOfNumerals();
        fifthOut();
        fourthItem();
        fourthColumnToGroupBy();
        fifthOpen();
        closedOnesDontCount();
        endsTooEarly();
        endsTooEarlyBehindBlanks();
        CHECKS.end();
    }

    private static QueryLoops tables() {
        QueryLoops x = new QueryLoops();
        for (int table = 0; table < 3; table++) {
            x.declare(table, 4);
        }
        Checks.put(x, 0, 1, 2, 3, 4);
        return x;
    }

    private static void right(int items, String text) {
        CHECKS.right(tables(), items, text);
    }

    private static void ill(String marked) {
        CHECKS.ill(tables(), marked);
    }

    // P7 "false if its code isn't 32 .. 126"
    private static void codes32To126() {
        for (int c = 0; c <= 0xffff; c++) {
            boolean taken = c >= 32 && c <= 126;
            if (c < 1000 || c % 256 == 'a' || c > 0xff00) {
                CHECKS.due("ask " + c, new QueryLoops().ask((char) c), taken);
            }
        }
    }

    private static void refusedCodesLeaveTheText() {
        QueryLoops x = tables();
        for (int i = 0; i < PLAIN.length(); i++) {
            x.ask((char) 31);
            x.ask((char) 127);
            x.ask((char) (256 + 'a'));
            x.ask(PLAIN.charAt(i));
            x.ask('\n');
        }
        CHECKS.due("only what was taken", Checks.compile(x, ""), "1");
    }

    // P7 "or 130 are there", Terms "at most 130 characters"
    private static void at130Characters() {
        QueryLoops x = new QueryLoops();
        for (int n = 1; n <= 130; n++) {
            CHECKS.due("character " + n, x.ask('a'), true);
        }
        CHECKS.due("the 131st", x.ask('a'), false);
        CHECKS.due("a blank as the 131st", x.ask(' '), false);
        CHECKS.due("a wrong code as the 131st", x.ask((char) 10), false);
        CHECKS.due("compile", Checks.compile(x, ""), "ill 0");
        CHECKS.due("the next text's first", x.ask('a'), true);
        ill(" ".repeat(130) + "#");
        ill(" ".repeat(129) + "#!");
        right(1, PLAIN + " ".repeat(130 - PLAIN.length()));
        right(1, " ".repeat(130 - PLAIN.length()) + PLAIN);
    }

    private static void the131stIsLeftOut() {
        String text = WHERE + " ".repeat(125 - WHERE.length()) + "x.a=1";
        CHECKS.due("130 in all", text.length(), 130);
        CHECKS.due("all 130 are read", Checks.query(tables(), 1, text), "1 @1");
        CHECKS.due("without the 131st", Checks.query(tables(), 1, text + "2"), "1 @1");
        CHECKS.due("with the 130th", Checks.query(tables(), 1, text.replace("  x", " x") + "2"), " @1");
        CHECKS.due("the 131st isn't there later", Checks.compile(withLong(text + "!"), PLAIN), "1");
    }

    private static QueryLoops withLong(String text) {
        QueryLoops x = tables();
        Checks.compile(x, text);
        return x;
    }

    // P8 "(it is empty then, in any case)"
    private static void textIsEmptyBehindCompile() {
        QueryLoops x = tables();
        CHECKS.due("right", Checks.compile(x, PLAIN), "1");
        CHECKS.due("empty then", Checks.compile(x, ""), "ill 0");
        CHECKS.due("right", Checks.compile(x, PLAIN), "1");
        CHECKS.due("empty then", Checks.compile(x, PLAIN), "1");
        CHECKS.due("ill", Checks.compile(x, "select x.a from"), "ill 15");
        CHECKS.due("empty then", Checks.compile(x, " T x"), "ill 1");
        CHECKS.due("ill by a table's columns", Checks.compile(x, "select y.a from T x"), "ill 7");
        CHECKS.due("empty then", Checks.compile(x, ""), "ill 0");
    }

    // P8 "There is no result then, in any case"
    private static void noResultBehindCompile() {
        String[] texts = {PLAIN, "", "select", "select y.a from T x", "!"};
        for (String text : texts) {
            QueryLoops x = tables();
            CHECKS.due("a result", Checks.query(x, 2, "select x.a,x.b from T x"), "1 2 @1");
            Checks.compile(x, text);
            CHECKS.due("rows behind '" + text + "'", x.rows(), 0);
            CHECKS.due("result behind it", x.result(0, 0) + x.result(0, 1), 0L);
            CHECKS.due("isNull behind it", x.isNull(0, 0), false);
            CHECKS.due("looked behind it", x.looked(), 1);
        }
    }

    // P8 "IllegalArgumentException: it is ILL (there is no query then)"
    private static void noQueryBehindAnIllText() {
        String[] texts = {"", "select", "select y.a from T x", "!"};
        for (String text : texts) {
            QueryLoops x = tables();
            CHECKS.due("a query", Checks.compile(x, PLAIN), "1");
            CHECKS.due("ill", Checks.compile(x, text).startsWith("ill"), true);
            CHECKS.due("no query behind '" + text + "'", Checks.run(x), "throws.IllegalStateException");
            CHECKS.due("a query again", Checks.compile(x, PLAIN), "1");
            CHECKS.due("it runs", Checks.run(x), "1");
        }
    }

    // P9 "NONE if it wasn't, or there was none"
    private static void placeNoneIfThereWasNone() {
        QueryLoops x = tables();
        CHECKS.due("no compile", x.place(), -1);
        Checks.text(x, "!");
        CHECKS.due("an ill text not compiled", x.place(), -1);
        CHECKS.due("compiled", Checks.compile(x, ""), "ill 0");
        CHECKS.due("right", Checks.compile(x, PLAIN), "1");
        CHECKS.due("it wasn't", x.place(), -1);
    }

    // P9 "of the latest compile"
    private static void placeIsOfTheLatest() {
        QueryLoops x = tables();
        CHECKS.due("ill", Checks.compile(x, "select !"), "ill 7");
        Checks.run(x);
        x.declare(0, 1);
        Checks.put(x, 0, 4);
        x.drop(0);
        Checks.text(x, "select");
        CHECKS.due("still", x.place(), 7);
        CHECKS.due("a later one", Checks.compile(x, ""), "ill 6");
        CHECKS.due("again", x.place(), 6);
        Checks.compile(x, PLAIN);
        x.declare(0, 1);
        CHECKS.due("declared anew, it wasn't ill", x.place(), -1);
    }

    // P8 "how many items"
    private static void howManyItems() {
        right(1, PLAIN);
        right(2, PLAIN + " join T y on 1=1");
        right(2, PLAIN + " left T y on 1=1");
        right(3, PLAIN + " left T y on 1=1 join T z on 1=1");
    }

    // Terms "with blanks (32) before, behind and between them as one likes"
    private static void blanksAsOneLikes() {
        right(1, "select count,x.a from Tx where(1=1)and not(x.a<-1)or null is null group x.a");
        right(1, "  select  count , x . a  from  T  x  where ( 1 = 1 ) and not ( x . a < -1 )  group  x . a  ");
        right(1, "select x.a fromTx where-1=-1and-1=1or 1=1");
        ill("select x.a fromTx #whereand");
        ill("#sel ect x.a from T x");
        ill("select x.a from T x where x.a = 1 #2");
        ill("select x.a from T x where x.a = #- 2");
    }

    // Terms "WORDS, as many small letters behind one another as there are"
    private static void wordsAsLongAsTheyGo() {
        String[] words = {"select", "from", "join", "on", "left", "where", "and", "or", "not", "is", "null", "group"};
        String whole = "select x.a from T x join U y on 1=1 left V z on 1=1 where 1=1 and 1=2 or not x.a is null group x.a";
        right(3, whole);
        for (String word : words) {
            int at = whole.indexOf(word);
            String before = whole.substring(0, at) + "#" + word;
            String behind = whole.substring(at + word.length());
            ill(before + "s" + behind);
            ill(before.substring(0, before.length() - 1) + behind);
            ill(before.substring(0, before.length() - 1) + "q" + behind);
            ill(before.substring(0, before.length() - 1) + word.substring(word.length() - 1).toUpperCase() + behind);
        }
        for (String gathering : List.of("count", "sum(x.a)", "min(x.a)", "max(x.a)")) {
            right(1, "select " + gathering + " from T x");
            ill("select #a" + gathering + " from T x");
            ill("select #" + gathering.substring(1) + " from T x");
        }
        ill("select #selectx.a from T x");
        ill("select x.#afrom T x");
        ill("select x.a from T #xwhere 1=1");
        ill("select x.a from T x where x.a #isnull");
        ill("select x.a from T x where #notx.a=1");
    }

    // Terms "capitals": one token each
    private static void capitalsOneByOne() {
        for (char c = 'A'; c <= 'Z'; c++) {
            boolean table = c >= 'T' && c <= 'V';
            if (table) {
                right(1, "select count from " + c + "x");
                ill("select count from " + c + "#" + c);
            } else {
                ill("select count from #" + c + "x");
            }
            ill("select count from T#" + c + " x");
            ill("#" + c + "select");
        }
    }

    // Terms "ILL at the first character with which no token can begin"
    private static void charactersThatBeginNoToken() {
        for (char c = 33; c <= 126; c++) {
            boolean small = c >= 'a' && c <= 'z';
            CHECKS.due("first " + c, Checks.compile(tables(), "" + c), "ill 0");
            CHECKS.due("behind a blank " + c, Checks.compile(tables(), PLAIN + " " + c), "ill 20");
            CHECKS.due("behind x " + c, Checks.compile(tables(), PLAIN + c), small ? "ill 18" : "ill 19");
        }
        right(1, PLAIN + " ");
    }

    // Terms "(Characters are looked at as the tokens are needed.)"
    private static void charactersAsTheTokensAreNeeded() {
        ill("#from !");
        ill("select #! $");
        ill("select x.a #x !");
        ill("select x.a,x.a,x.a,x.a#, 1234567");
        ill("select y.a from T x #!");
        ill("select y.a from T x where x.a = #1234567");
        ill("select x.#e from T x !");
    }

    // Terms "NUMERALS, perhaps - and one to six digits"
    private static void oneToSixDigits() {
        String digits = "987654";
        for (int n = 1; n <= 6; n++) {
            String numeral = digits.substring(0, n);
            right(1, WHERE + "x.a=" + numeral);
            right(1, WHERE + "x.a=-" + numeral);
            right(1, WHERE + numeral + "=x.a");
            right(1, WHERE + "-" + numeral + " is null");
            right(1, WHERE + "x.a<" + "0".repeat(n));
        }
    }

    // Terms "(of a numeral of more than six digits: at its beginning"
    private static void sevenDigitsAtTheBeginning() {
        String[] many = {"1234567", "0000000", "0000001", "12345678", "2147483648", "4294967297", "9".repeat(60)};
        for (String numeral : many) {
            ill(WHERE + "x.a=#" + numeral);
            ill(WHERE + "x.a=#-" + numeral);
            ill(WHERE + "#" + numeral + "=1");
            ill(WHERE + "#-" + numeral + "=1");
            ill(WHERE + "x.a=1 #" + numeral);
            ill("#" + numeral);
        }
        ill(WHERE + "x.a=123456 #7");
        ill(WHERE + "x.a=123456#-7");
    }

    // Terms "a - with no digit behind: there)"
    private static void minusWithNoDigitBehind() {
        String[] behind = {"", " ", " 1", "-1", "-", "a", "x.a", "=", "(1", "T", "!"};
        for (String b : behind) {
            ill(WHERE + "x.a=#-" + b);
            ill(WHERE + "#-" + b + "=1");
        }
        right(1, WHERE + "x.a=-1");
        right(1, WHERE + "-1=x.a");
        ill("#-");
        ill("#-1");
    }

    private static void numbersOfNumerals() {
        int[] numbers = {0, 1, 9, 10, 99, 100, 12345, 99999, 100000, 999998, 999999};
        for (int n : numbers) {
            for (int sign = -1; sign <= 1; sign += 2) {
                QueryLoops x = new QueryLoops();
                x.declare(0, 1);
                Checks.put(x, 0, sign * n - 1);
                Checks.put(x, 0, sign * n);
                Checks.put(x, 0, sign * n + 1);
                String numeral = (sign < 0 ? "-" : "") + n;
                CHECKS.due("=" + numeral, Checks.query(x, 1, WHERE + "x.a=" + numeral), sign * n + " @3");
                CHECKS.due("<" + numeral, Checks.query(x, 1, WHERE + "x.a<" + numeral), sign * n - 1 + " @3");
                CHECKS.due(">" + numeral, Checks.query(x, 1, WHERE + "x.a>" + numeral), sign * n + 1 + " @3");
            }
        }
        CHECKS.due("zeros before", Checks.query(tables(), 1, WHERE + "x.a=000001 and x.b=00002"), "1 @1");
    }

    // Terms "at most four outs", "(of outs and columns to group by the , before it"
    private static void fifthOut() {
        String[] outs = {"x.a", "count", "sum(x.a)", "min(x.b)", "max(x.c)"};
        for (String out : outs) {
            String four = "select count," + out + "," + out + "," + out;
            boolean column = out.equals("x.a");
            right(1, four + " from T x" + (column ? " group x.a" : ""));
            ill(four + "#," + out + " from T x");
            ill(four + " #, " + out + " from T x");
            ill(four + "#,");
            ill(four + "#,,");
            ill(four + " #" + out);
            ill(four + "#");
        }
        right(1, "select x.a,x.b,x.c,x.d from T x");
        ill("select x.a,x.b,x.c,x.d#,x.a from T x");
    }

    // Terms "at most three items", "of items join or left)"
    private static void fourthItem() {
        String[] words = {"join", "left"};
        for (String second : words) {
            for (String third : words) {
                String three = PLAIN + " " + second + " T y on 1=1 " + third + " T z on 1=1";
                right(3, three);
                for (String fourth : words) {
                    ill(three + " #" + fourth + " T w on 1=1");
                    ill(three + " #" + fourth);
                    ill(three + " #" + fourth + " !");
                }
                right(3, three + " where 1=1");
                right(3, three + " and 1=1 group x.a");
            }
        }
    }

    // Terms "at most three columns to group by"
    private static void fourthColumnToGroupBy() {
        for (String three : List.of("x.a,x.b,x.c", "x.a,x.a,x.a")) {
            right(1, PLAIN + " group " + three);
            ill(PLAIN + " group " + three + "#,x.d");
            ill(PLAIN + " group " + three + " #, x.a");
            ill(PLAIN + " group " + three + "#,");
            ill(PLAIN + " group " + three + "#,!");
            ill(PLAIN + " group " + three + " #x.a");
        }
        ill(PLAIN + " group x.a,x.b,#");
    }

    // Terms "of a not or ( that would be the fifth that is open, one in the other"
    private static void fifthOpen() {
        for (int mask = 0; mask < 32; mask++) {
            List<String> open = new ArrayList<>();
            int parentheses = 0;
            for (int n = 0; n < 5; n++) {
                open.add((mask >> n & 1) == 0 ? "not " : "(");
                parentheses += n < 4 ? mask >> n & 1 : 0;
            }
            String four = String.join("", open.subList(0, 4));
            right(1, WHERE + four + "1=1" + ")".repeat(parentheses));
            right(2, PLAIN + " join T y on " + four + "1=1" + ")".repeat(parentheses) + " where " + four + "1=1"
                    + ")".repeat(parentheses));
            ill(WHERE + four + "#" + open.get(4) + "1=1" + ")".repeat(parentheses + (mask >> 4)));
            ill(PLAIN + " left T y on " + four + "#" + open.get(4));
            ill(WHERE + "1=2 or 1=1 and " + four + "#" + open.get(4));
        }
    }

    private static void closedOnesDontCount() {
        right(1, WHERE + "not not not not 1=1 and not not not not 1=1 or not not not not 1=1");
        right(1, WHERE + "((((1=1)))) and ((((1=1)))) or ((((1=1))))");
        right(1, WHERE + "((((1=1) and (1=1)) and (1=1 or (1=1))))");
        ill(WHERE + "((((1=1) and (1=1)) and (1=1 or (#(1=1)))))");
        right(1, WHERE + "not (not (1=1) and not 1=1 and not (1=1))");
        right(1, WHERE + "(not (not 1=1 or not 1=1 or 1=1) and not not not 1=1)");
        ill(WHERE + "(not (not 1=1 or not 1=1 or 1=1) and not not not #not 1=1)");
        right(2, "select sum(x.a) from T x join T y on ((((1=1)))) where ((((x.a=1))))");
    }

    // Terms "or at its length if it ends too early"
    private static void endsTooEarly() {
        // Each piece ends with the end of a query; before that, the text has ended too early.
        String[] pieces = {"select sum ( x . a ) , count from T x", "join U y on not 1 = x . a",
            "and ( null is null or y . b < 2 )", "left V z on x . a > 1", "where z . a is null", "and 1 = 2",
            "group x . a", ", y . b"};
        String text = "";
        for (int p = 0; p < pieces.length; p++) {
            String[] tokens = pieces[p].split(" ");
            for (int t = 0; t < tokens.length; t++) {
                if (t > 0 || p == 0) {
                    ill(text + "#");
                }
                text = behind(text, tokens[t]);
            }
            CHECKS.due("short enough", text.length() <= 130, true);
            right(p == 0 ? 1 : p < 3 ? 2 : 3, text);
        }
    }

    /** With a blank between two words alone, since a text is short. */
    private static String behind(String text, String token) {
        return text.matches(".*[a-z]") && token.matches("[a-z]+") ? text + " " + token : text + token;
    }

    private static void endsTooEarlyBehindBlanks() {
        ill("#");
        ill(" #");
        ill("select #");
        ill("  select  x.a  from  T  #");
        ill("select" + " ".repeat(124) + "#");
        ill("select" + " ".repeat(123) + "#!");
        ill(WHERE + " ".repeat(130 - WHERE.length()) + "#");
    }
}
