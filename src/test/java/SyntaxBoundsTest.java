import java.util.ArrayList;
import java.util.List;

/**
 * "Terms": a text is ILL "at the beginning of the first token that can't stand there", or at its length if it
 * ends there too early. Behind each beginning of a query that the syntax tells apart, all kinds of tokens are
 * tried, and the end of the text: those that may stand there do, and no others.
 */
public final class SyntaxBoundsTest {
    private static final Checks CHECKS = new Checks("SyntaxBoundsTest");
    private static final String END = "";
    private static final List<String> TOKENS = List.of(END, "select", "from", "join", "left", "on", "where", "group",
            "count", "sum", "min", "max", "or", "and", "not", "is", "null", "w", "x", "y", "z", "a", "b", "c", "d",
            "v", "e", "t", "u", "xx", "selec", "selects", "nul", "column", "query", "T", "U", "V", "S", "W", "X", "A",
            "0", "1", "-1", "999999", "1234567", "-1234567", "-", "(", ")", ",", ".", "=", "<", ">", "!", "*", "\"",
            "'", "+", "/", ";", "_", "~");
    private static final String ALIAS = "w x y z";
    private static final String LETTER = "a b c d";
    private static final String OUT = ALIAS + " count sum min max";
    private static final String TABLE = "T U V";
    private static final String OPERAND = ALIAS + " null 0 1 -1 999999";
    private static final String TEST = OPERAND + " not (";
    private static final String SIGN = "is = < >";
    private static final String ONE = "select x.a from T x";
    private static final String TWO = ONE + " join U y on ";
    private static final String THREE = TWO + "1=1 left V z on ";

    public static void main(String[] args) {
        outs();
        items();
        conditions("where ", ONE + " where ", "and or group END");
        conditions("on ", TWO, "and or join left where group END");
        conditions("the last on ", THREE, "and or where group END");
        open(ONE + " where ");
        open(TWO);
        group();
        CHECKS.end();
    }

    private static void outs() {
        stand("", "select");
        stand("select", OUT);
        column("select ", ", from");
        column("select count,x.b,", ", from");
        column("select x.a,x.b,x.c,", "from");
        stand("select count", ", from");
        stand("select count,count,count,count", "from");
        for (String kind : List.of("sum", "min", "max")) {
            stand("select " + kind, "(");
            stand("select " + kind + "(", ALIAS);
            column("select " + kind + "(", ")");
            stand("select " + kind + "(x.a)", ", from");
            stand("select count,count,count," + kind + "(x.a)", "from");
        }
        stand("select count,", OUT);
        stand("select x.a,count,x.a,", OUT);
    }

    private static void items() {
        stand("select x.a from", TABLE);
        for (String table : TABLE.split(" ")) {
            stand("select x.a from " + table, ALIAS);
        }
        for (String alias : ALIAS.split(" ")) {
            stand("select x.a from T " + alias, "join left where group END");
        }
        for (String word : List.of("join", "left")) {
            stand(ONE + " " + word, TABLE);
            stand(ONE + " " + word + " U", ALIAS);
            stand(ONE + " " + word + " U y", "on");
            stand(ONE + " " + word + " U y on", TEST);
            stand(TWO + "1=1 " + word, TABLE);
            stand(TWO + "1=1 " + word + " V z", "on");
        }
    }

    /** behind: what may stand behind a whole condition that is open nowhere. */
    private static void conditions(String name, String before, String behind) {
        CHECKS.due(name, before.endsWith(" "), true);
        stand(before, TEST);
        column(before, SIGN);
        for (String operand : List.of("x.a", "null", "1", "-1")) {
            stand(before + operand, SIGN);
            stand(before + operand + " is", "null");
            stand(before + operand + " is null", behind);
            for (String sign : List.of("=", "<", ">")) {
                stand(before + operand + sign, OPERAND);
                stand(before + "1" + sign + operand, behind);
            }
        }
        column(before + "1=", behind);
        for (String word : List.of("and ", "or ")) {
            stand(before + "1=1 " + word, TEST);
            stand(before + "1=1 " + word + "1=2", behind);
            stand(before + "1=1 " + word + "1", SIGN);
        }
        stand(before + "not 1=1", behind);
        stand(before + "not not 1", SIGN);
        stand(before + "(1=1)", behind);
        stand(before + "not (1=1)", behind);
    }

    /** How many not and ( may be open, and what may stand inside them. */
    private static void open(String before) {
        stand(before + "(", TEST);
        stand(before + "not", TEST);
        stand(before + "(1=1", "and or )");
        stand(before + "(not 1=1", "and or )");
        stand(before + "((1=1)", "and or )");
        stand(before + "(1=1 or", TEST);
        stand(before + "(1=1 and", TEST);
        for (String three : List.of("(((", "not not not", "not(not", "(not(", "((not")) {
            stand(before + three, TEST);
        }
        for (String four : List.of("((((", "not not not not", "not(not(", "(not(not", "(((not", "not not not(")) {
            stand(before + four, OPERAND);
        }
        stand(before + "((((1=1", "and or )");
        stand(before + "((((1=1 and", OPERAND);
        stand(before + "((((1=1)and", TEST);
        stand(before + "(((not 1=1 or", TEST);
    }

    private static void group() {
        stand(ONE + " group", ALIAS);
        column(ONE + " group ", ", END");
        stand(ONE + " where 1=1 group", ALIAS);
        stand(ONE + " group x.a,", ALIAS);
        column(ONE + " group x.a,", ", END");
        stand(ONE + " group x.a,x.b,", ALIAS);
        column(ONE + " group x.a,x.b,", "END");
    }

    /** A column, token by token, and what may stand behind it. */
    private static void column(String before, String behind) {
        for (String alias : ALIAS.split(" ")) {
            stand(before + alias, ".");
            stand(before + alias + ".", LETTER);
        }
        for (String letter : LETTER.split(" ")) {
            stand(before + "x." + letter, behind);
        }
    }

    private static void stand(String before, String allowed) {
        List<String> may = new ArrayList<>(List.of(allowed.split(" ")));
        if (may.remove("END")) {
            may.add(END);
        }
        CHECKS.due("all of " + allowed + " are tried", TOKENS.containsAll(may), true);
        for (String token : TOKENS) {
            String text = before + " " + token;
            int at = before.length() + 1;
            String answer = Checks.compile(tables(), text);
            CHECKS.due("'" + text + "' answers " + answer, answer.matches("[1-3]|ill [0-9]+"), true);
            // What may stand there is ill somewhere else or nowhere: the text goes on too short, or a column isn't there.
            CHECKS.due("'" + text + "' ill at its last token", answer.equals("ill " + at), !may.contains(token));
            if (may.contains(token) && answer.startsWith("ill")) {
                int place = Integer.parseInt(answer.substring(4));
                CHECKS.due("'" + text + "' ill elsewhere", place == text.length() || place < at, true);
            }
        }
    }

    private static QueryLoops tables() {
        QueryLoops x = new QueryLoops();
        for (int table = 0; table < 3; table++) {
            x.declare(table, 4);
        }
        return x;
    }
}
