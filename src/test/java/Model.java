import java.util.ArrayList;
import java.util.LinkedHashMap;
import java.util.List;
import java.util.Map;

/**
 * The document once more, by the whole Java library and by other means: tokens are cut off as they are
 * needed, conditions are trees, truth is a Boolean or null, and those found are kept before they are gathered.
 */
final class Model {
    private static final class Ill extends Exception {
        private static final long serialVersionUID = 1L;
        final int at;

        Ill(int at) {
            this.at = at;
        }
    }

    private static final class Stop extends Exception {
        private static final long serialVersionUID = 1L;
    }

    private record Column(int at, char alias, int letter) { }

    private record Item(int table, int tableAt, char alias, int aliasAt, boolean left, Node on) { }

    private record Out(String kind, Column column) { }

    /** kind: or, and, not, paren, is, =, <, >; an operand is a Column, an Integer or null. */
    private record Node(String kind, List<Node> under, Object left, Object right) { }

    private static final class Asked {
        List<Out> outs = new ArrayList<>();
        List<Item> items = new ArrayList<>();
        Node where;
        List<Column> group = new ArrayList<>();
        boolean hasGroup;

        boolean gathers() {
            return hasGroup || outs.stream().anyMatch(o -> !o.kind.equals("column"));
        }

        int itemOf(Column c) {
            for (int i = 0; i < items.size(); i++) {
                if (items.get(i).alias == c.alias) {
                    return i;
                }
            }
            return -1;
        }
    }

    private final int[] widths = new int[3];
    private final List<List<List<Integer>>> tables = new ArrayList<>();
    private List<Integer> values = new ArrayList<>();
    private String text = "";
    private String read = "";
    private int pos;
    private Asked asked;
    private int place = -1;
    private int looked;
    private List<List<Long>> result;
    private int resultWidth;

    Model() {
        for (int i = 0; i < 3; i++) {
            tables.add(new ArrayList<>());
        }
    }

    boolean declare(int table, int columns) {
        if (table < 0 || table > 2 || columns < 1 || columns > 4) {
            return false;
        }
        widths[table] = columns;
        tables.get(table).clear();
        if (asked != null && asked.items.stream().anyMatch(i -> i.table == table)) {
            asked = null;
        }
        return true;
    }

    int width(int table) {
        return table < 0 || table > 2 ? 0 : widths[table];
    }

    boolean put(Integer v) {
        return values.size() < 4 && values.add(v);
    }

    String row(int table) {
        List<Integer> taken = values;
        values = new ArrayList<>();
        if (table < 0 || table > 2 || widths[table] == 0 || widths[table] != taken.size()) {
            return "throws.IllegalArgumentException";
        }
        if (tables.get(table).size() == 10) {
            return "throws.IllegalStateException";
        }
        tables.get(table).add(taken);
        return "" + tables.get(table).size();
    }

    int drop(int table) {
        if (table < 0 || table > 2 || tables.get(table).isEmpty()) {
            return -1;
        }
        tables.get(table).remove(0);
        return tables.get(table).size();
    }

    boolean ask(char c) {
        if (c < 32 || c > 126 || text.length() == 130) {
            return false;
        }
        text += c;
        return true;
    }

    String compile() {
        read = text;
        text = "";
        pos = 0;
        result = null;
        asked = null;
        place = -1;
        try {
            Asked a = readQuery();
            check(a);
            asked = a;
            return "" + a.items.size();
        } catch (Ill ill) {
            place = ill.at;
            return "throws.IllegalArgumentException";
        }
    }

    int place() {
        return place;
    }

    int looked() {
        return looked;
    }

    int rows() {
        return result == null ? 0 : result.size();
    }

    boolean isThere(int r, int k) {
        return result != null && r >= 0 && r < result.size() && k >= 0 && k < resultWidth;
    }

    boolean isNull(int r, int k) {
        return isThere(r, k) && result.get(r).get(k) == null;
    }

    long result(int r, int k) {
        return isThere(r, k) && !isNull(r, k) ? result.get(r).get(k) : 0;
    }

    // Reading.

    private int begin() {
        while (pos < read.length() && read.charAt(pos) == ' ') {
            pos++;
        }
        return pos;
    }

    /** The token at the place, "" at the end. */
    private String peek() throws Ill {
        int at = begin();
        if (at == read.length()) {
            return "";
        }
        String rest = read.substring(at);
        char c = rest.charAt(0);
        if (c >= 'a' && c <= 'z') {
            return rest.replaceFirst("[^a-z].*", "");
        }
        if (c == '-' || c >= '0' && c <= '9') {
            if (!rest.matches("-?[0-9]+.*")) {
                throw new Ill(at);
            }
            String numeral = rest.replaceFirst("^(-?[0-9]+).*", "$1");
            if (numeral.replace("-", "").length() > 6) {
                throw new Ill(at);
            }
            return numeral;
        }
        if (c >= 'A' && c <= 'Z' || "(),.=<>".indexOf(c) >= 0) {
            return rest.substring(0, 1);
        }
        throw new Ill(at);
    }

    private Ill illHere() {
        return new Ill(begin());
    }

    private boolean next(String token) throws Ill {
        return peek().equals(token);
    }

    private String pull() throws Ill {
        String token = peek();
        pos += token.length();
        return token;
    }

    private void expect(String token) throws Ill {
        if (!next(token)) {
            throw illHere();
        }
        pull();
    }

    private boolean skip(String token) throws Ill {
        if (!next(token)) {
            return false;
        }
        pull();
        return true;
    }

    private char oneOf(String letters) throws Ill {
        String token = peek();
        if (token.length() != 1 || letters.indexOf(token.charAt(0)) < 0) {
            throw illHere();
        }
        return pull().charAt(0);
    }

    private Asked readQuery() throws Ill {
        Asked a = new Asked();
        expect("select");
        a.outs.add(readOut());
        while (next(",")) {
            if (a.outs.size() == 4) {
                throw illHere();
            }
            pull();
            a.outs.add(readOut());
        }
        expect("from");
        a.items.add(readItem(false, false));
        while (next("join") || next("left")) {
            if (a.items.size() == 3) {
                throw illHere();
            }
            boolean left = pull().equals("left");
            a.items.add(readItem(true, left));
        }
        if (skip("where")) {
            a.where = readCondition(0);
        }
        if (skip("group")) {
            a.hasGroup = true;
            a.group.add(readColumn());
            while (next(",")) {
                if (a.group.size() == 3) {
                    throw illHere();
                }
                pull();
                a.group.add(readColumn());
            }
        }
        expect("");
        return a;
    }

    private Out readOut() throws Ill {
        if (skip("count")) {
            return new Out("count", null);
        }
        for (String kind : List.of("sum", "min", "max")) {
            if (skip(kind)) {
                expect("(");
                Column c = readColumn();
                expect(")");
                return new Out(kind, c);
            }
        }
        return new Out("column", readColumn());
    }

    private Item readItem(boolean joined, boolean left) throws Ill {
        int tableAt = begin();
        int table = oneOf("TUV") - 'T';
        int aliasAt = begin();
        char alias = oneOf("wxyz");
        Node on = null;
        if (joined) {
            expect("on");
            on = readCondition(0);
        }
        return new Item(table, tableAt, alias, aliasAt, left, on);
    }

    private Column readColumn() throws Ill {
        int at = begin();
        char alias = oneOf("wxyz");
        expect(".");
        return new Column(at, alias, oneOf("abcd") - 'a');
    }

    private Node readCondition(int open) throws Ill {
        List<Node> under = new ArrayList<>();
        do {
            under.add(readConjunction(open));
        } while (skip("or"));
        return new Node("or", under, null, null);
    }

    private Node readConjunction(int open) throws Ill {
        List<Node> under = new ArrayList<>();
        do {
            under.add(readTest(open));
        } while (skip("and"));
        return new Node("and", under, null, null);
    }

    private Node readTest(int open) throws Ill {
        if (next("not") || next("(")) {
            if (open == 4) {
                throw illHere();
            }
            if (pull().equals("not")) {
                return new Node("not", List.of(readTest(open + 1)), null, null);
            }
            Node inside = readCondition(open + 1);
            expect(")");
            return new Node("paren", List.of(inside), null, null);
        }
        Object left = readOperand();
        if (skip("is")) {
            expect("null");
            return new Node("is", List.of(), left, null);
        }
        String sign = "" + oneOf("=<>");
        return new Node(sign, List.of(), left, readOperand());
    }

    private Object readOperand() throws Ill {
        if (skip("null")) {
            return null;
        }
        if (peek().matches("-?[0-9]+")) {
            return Integer.valueOf(pull());
        }
        return readColumn();
    }

    // Checking.

    private void check(Asked a) throws Ill {
        List<Integer> ills = new ArrayList<>();
        for (Out o : a.outs) {
            if (o.column != null) {
                checkColumn(a, o.column, 2, ills);
            }
            if (o.kind.equals("column") && a.gathers()
                    && a.group.stream().noneMatch(g -> g.alias == o.column.alias && g.letter == o.column.letter)) {
                ills.add(o.column.at);
            }
        }
        for (int i = 0; i < a.items.size(); i++) {
            Item item = a.items.get(i);
            if (widths[item.table] == 0) {
                ills.add(item.tableAt);
            }
            for (int j = 0; j < i; j++) {
                if (a.items.get(j).alias == item.alias) {
                    ills.add(item.aliasAt);
                }
            }
            for (Column c : columnsIn(item.on)) {
                checkColumn(a, c, i, ills);
            }
        }
        for (Column c : columnsIn(a.where)) {
            checkColumn(a, c, 2, ills);
        }
        for (Column c : a.group) {
            checkColumn(a, c, 2, ills);
        }
        if (!ills.isEmpty()) {
            throw new Ill(ills.stream().min(Integer::compare).get());
        }
    }

    private void checkColumn(Asked a, Column c, int last, List<Integer> ills) {
        int item = a.itemOf(c);
        if (item < 0 || item > last || widths[a.items.get(item).table] <= c.letter) {
            ills.add(c.at);
        }
    }

    private static List<Column> columnsIn(Node n) {
        List<Column> all = new ArrayList<>();
        if (n != null) {
            n.under.forEach(u -> all.addAll(columnsIn(u)));
            if (n.left instanceof Column c) {
                all.add(c);
            }
            if (n.right instanceof Column c) {
                all.add(c);
            }
        }
        return all;
    }

    // Running.

    String run() {
        if (asked == null) {
            return "throws.IllegalStateException";
        }
        looked = 0;
        result = null;
        List<List<List<Integer>>> found = new ArrayList<>();
        boolean stopped = false;
        try {
            goThrough(0, new ArrayList<>(), found);
        } catch (Stop stop) {
            stopped = true;
        }
        if (stopped) {
            return "throws.UnsupportedOperationException";
        }
        resultWidth = asked.outs.size();
        result = resultOf(found);
        return "" + result.size();
    }

    private List<List<Long>> resultOf(List<List<List<Integer>>> found) {
        Map<List<Integer>, List<List<List<Integer>>>> groups = new LinkedHashMap<>();
        List<List<Long>> all = new ArrayList<>();
        if (!asked.gathers()) {
            found.forEach(f -> all.add(lineOf(List.of(f))));
            return all;
        }
        if (!asked.hasGroup) {
            groups.put(new ArrayList<>(), new ArrayList<>());
        }
        for (List<List<Integer>> f : found) {
            List<Integer> key = new ArrayList<>();
            asked.group.forEach(g -> key.add(operand(g, f)));
            groups.computeIfAbsent(key, k -> new ArrayList<>()).add(f);
        }
        groups.values().forEach(g -> all.add(lineOf(g)));
        return all;
    }

    private List<Long> lineOf(List<List<List<Integer>>> group) {
        List<Long> line = new ArrayList<>();
        for (Out o : asked.outs) {
            if (o.kind.equals("count")) {
                line.add((long) group.size());
                continue;
            }
            List<Long> known = new ArrayList<>();
            for (List<List<Integer>> f : group) {
                Integer v = operand(o.column, f);
                if (v != null) {
                    known.add((long) v);
                }
            }
            if (known.isEmpty()) {
                line.add(null);
            } else if (o.kind.equals("sum")) {
                line.add(known.stream().mapToLong(v -> v).sum());
            } else if (o.kind.equals("max")) {
                line.add(known.stream().mapToLong(v -> v).max().getAsLong());
            } else if (o.kind.equals("min")) {
                line.add(known.stream().mapToLong(v -> v).min().getAsLong());
            } else {
                line.add(known.get(0));
            }
        }
        return line;
    }

    private void goThrough(int k, List<List<Integer>> before, List<List<List<Integer>>> found) throws Stop {
        if (k == asked.items.size()) {
            found.add(new ArrayList<>(before));
            if (resultOf(found).size() > 30) {
                throw new Stop();
            }
            return;
        }
        Item item = asked.items.get(k);
        boolean fitted = false;
        for (List<Integer> line : tables.get(item.table)) {
            looked++;
            List<List<Integer>> now = new ArrayList<>(before);
            now.add(line);
            if (item.on == null || Boolean.TRUE.equals(truth(item.on, now))) {
                fitted = true;
                pass(k, now, found);
            }
        }
        if (item.left && !fitted) {
            List<Integer> none = new ArrayList<>();
            for (int i = 0; i < 4; i++) {
                none.add(null);
            }
            List<List<Integer>> now = new ArrayList<>(before);
            now.add(none);
            pass(k, now, found);
        }
    }

    private void pass(int k, List<List<Integer>> now, List<List<List<Integer>>> found) throws Stop {
        for (Node part : parts()) {
            int last = columnsIn(part).stream().mapToInt(c -> asked.itemOf(c)).max().orElse(0);
            if (last == k && !Boolean.TRUE.equals(truth(part, now))) {
                return;
            }
        }
        goThrough(k + 1, now, found);
    }

    private List<Node> parts() {
        if (asked.where == null) {
            return List.of();
        }
        return asked.where.under.size() > 1 ? List.of(asked.where) : asked.where.under.get(0).under;
    }

    private Integer operand(Object o, List<List<Integer>> now) {
        return o instanceof Column c ? now.get(asked.itemOf(c)).get(c.letter) : (Integer) o;
    }

    private Boolean truth(Node n, List<List<Integer>> now) {
        switch (n.kind) {
            case "paren":
                return truth(n.under.get(0), now);
            case "not":
                Boolean t = truth(n.under.get(0), now);
                return t == null ? null : Boolean.valueOf(!t);
            case "and":
            case "or":
                return all(n, now, n.kind.equals("or"));
            default:
                return test(n, operand(n.left, now), operand(n.right, now));
        }
    }

    /** decides: the truth of one that makes it the truth of all. */
    private Boolean all(Node n, List<List<Integer>> now, boolean decides) {
        boolean unknown = false;
        for (Node u : n.under) {
            Boolean t = truth(u, now);
            if (t == null) {
                unknown = true;
            } else if (t == decides) {
                return decides;
            }
        }
        return unknown ? null : Boolean.valueOf(!decides);
    }

    private static Boolean test(Node n, Integer left, Integer right) {
        if (n.kind.equals("is")) {
            return left == null;
        }
        if (left == null || right == null) {
            return null;
        }
        return n.kind.equals("=") ? left.intValue() == right.intValue() : n.kind.equals("<") ? left < right : left > right;
    }
}
