import java.util.Random;

/** Makes up texts: most are queries, some are queries with something wrong in them. */
final class Words {
    private static final String[] TOKENS = {"select", "from", "join", "left", "on", "where", "group", "count",
        "sum", "min", "max", "or", "and", "not", "is", "null", "T", "U", "V", "W", "w", "x", "y", "z", "a", "b", "c",
        "d", "e", "(", ")", ",", ".", "=", "<", ">", "1", "-2", "123456", "1234567", "-", "*", "selec", "x.a", "1=1"};

    private final Random random;
    private final int items;
    private final String aliases;

    Words(Random random) {
        this.random = random;
        this.items = 1 + random.nextInt(3);
        String[] orders = {"xyz", "zyx", "wxy", "yxz", "xxy", "xyx"};
        this.aliases = orders[random.nextInt(random.nextInt(8) == 0 ? 6 : 4)];
    }

    String query() {
        boolean grouped = random.nextInt(3) == 0;
        String group = grouped ? column(items) : "";
        StringBuilder all = new StringBuilder(blank("") + "select ");
        int outs = 1 + random.nextInt(random.nextInt(20) == 0 ? 5 : 3);
        boolean gathers = grouped || random.nextInt(4) == 0;
        for (int k = 0; k < outs; k++) {
            all.append(k == 0 ? "" : blank("") + "," + blank("")).append(out(gathers, group));
        }
        all.append(" from ").append(item(0));
        for (int i = 1; i < items; i++) {
            all.append(random.nextInt(2) == 0 ? " join " : " left ").append(item(i));
            all.append(" on ").append(random.nextInt(3) == 0 ? "1=1" : condition(i + 1, 0));
        }
        if (random.nextInt(2) == 0) {
            all.append(" where ").append(condition(items, 0));
        }
        if (grouped) {
            all.append(" group ").append(group);
            for (int g = 0; random.nextInt(3) == 0; g++) {
                all.append(",").append(column(items));
            }
        }
        return all + blank("");
    }

    /** A query with some characters or tokens put in, taken out or changed, or tokens alone. */
    String spoiled() {
        StringBuilder all = new StringBuilder(query());
        if (random.nextInt(4) == 0) {
            all.setLength(random.nextInt(all.length() + 1));
            for (int n = random.nextInt(12); n > 0; n--) {
                all.append(token()).append(random.nextInt(4) == 0 ? "" : " ");
            }
        }
        for (int n = random.nextInt(3); n > 0 && all.length() > 0; n--) {
            int at = random.nextInt(all.length());
            switch (random.nextInt(4)) {
                case 0 -> all.deleteCharAt(at);
                case 1 -> all.setCharAt(at, (char) (32 + random.nextInt(95)));
                case 2 -> all.insert(at, token());
                default -> all.setLength(at);
            }
        }
        return all.toString();
    }

    private String token() {
        return TOKENS[random.nextInt(TOKENS.length)];
    }

    private String blank(String least) {
        return random.nextInt(6) == 0 ? "  " : least;
    }

    private String item(int i) {
        return "TUV".charAt(random.nextInt(3)) + blank(" ") + aliases.charAt(i);
    }

    private String column(int upTo) {
        char alias = aliases.charAt(random.nextInt(random.nextInt(60) == 0 ? 3 : upTo));
        int letters = random.nextInt(40) == 0 ? 5 : random.nextInt(4) == 0 ? 2 : 1;
        return alias + blank("") + "." + "abcde".charAt(random.nextInt(letters));
    }

    private String out(boolean gathers, String group) {
        if (!gathers) {
            return column(items);
        }
        int kind = random.nextInt(group.isEmpty() ? 4 : 6);
        String[] kinds = {"sum", "min", "max"};
        return kind == 3 ? "count" : kind > 3 ? group : kinds[kind] + "(" + column(items) + ")";
    }

    private String condition(int upTo, int open) {
        StringBuilder all = new StringBuilder(test(upTo, open));
        int more = random.nextInt(6) == 0 ? 4 : 2;
        for (int n = random.nextInt(more); n > 0; n--) {
            all.append(random.nextInt(3) == 0 ? " or " : " and ").append(test(upTo, open));
        }
        return all.toString();
    }

    private String test(int upTo, int open) {
        int kind = random.nextInt(10);
        if (open < 6 && kind == 0) {
            return "(" + condition(upTo, open + 1) + ")";
        }
        if (open < 6 && kind <= 2) {
            return "not " + test(upTo, open + 1 + random.nextInt(2));
        }
        if (kind == 3) {
            return operand(upTo) + " is null";
        }
        return operand(upTo) + blank("") + "==<>".charAt(random.nextInt(4)) + operand(upTo);
    }

    private String operand(int upTo) {
        int kind = random.nextInt(12);
        return kind == 0 ? " null" : kind < 5 ? "" + (random.nextInt(5) - 1) : column(upTo);
    }
}
