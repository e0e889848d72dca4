/**
 * Tables of numbers that are asked by texts. A text is split into tokens, read into a query, checked
 * against the tables, and run by cursors that go through the rows of its items one within the other.
 */
public final class QueryLoops {
    /** Nothing there. */
    public static final int NONE = -1;

    private static final int TABLES = 3;
    private static final int MOST_COLUMNS = 4;
    private static final int MOST_ROWS = 10;
    private static final int MOST_CHARACTERS = 130;
    private static final int MOST_DIGITS = 6;
    private static final int MOST_ITEMS = 3;
    private static final int MOST_OUTS = 4;
    private static final int MOST_GROUPED = 3;
    private static final int MOST_OPEN = 4;
    private static final int MOST_FOUND = 30;

    // In this order "and" is the lesser of two truths, "or" the greater, and "not" turns it round.
    private static final int FALSE = 0;
    private static final int UNKNOWN = 1;
    private static final int TRUE = 2;

    // Kinds of tokens. A sign, a capital and a word of one letter are of the kind of their own code,
    // so the others begin above all codes that a text can hold.
    private static final int END = 256;
    private static final int BAD = 257;
    private static final int NUMERAL = 258;
    private static final int SELECT = 259;
    private static final int FROM = 260;
    private static final int JOIN = 261;
    private static final int LEFT = 262;
    private static final int ON = 263;
    private static final int WHERE = 264;
    private static final int GROUP = 265;
    private static final int COUNT = 266;
    private static final int SUM = 267;
    private static final int MIN = 268;
    private static final int MAX = 269;
    private static final int OR = 270;
    private static final int AND = 271;
    private static final int NOT = 272;
    private static final int IS = 273;
    private static final int NULL = 274;
    // No token: the kind of an out that is a column.
    private static final int COLUMN = 275;

    private final Tables tables;
    private final Values values;
    private final Text text;
    private final Tokens tokens;
    private final Query query;
    private final Parser parser;
    private final Checker checker;
    private final Answer answer;
    private final Loops loops;
    private boolean hasQuery;
    private int illPlace;

    public QueryLoops() {
        tables = new Tables();
        values = new Values();
        text = new Text();
        tokens = new Tokens();
        query = new Query();
        parser = new Parser(tokens, query);
        checker = new Checker(query, tables);
        answer = new Answer();
        loops = new Loops(query, tables, answer);
        hasQuery = false;
        illPlace = NONE;
    }

    public boolean declare(int table, int columns) {
        if (!tables.make(table, columns)) {
            return false;
        }
        if (query.uses(table)) {
            hasQuery = false;
        }
        return true;
    }

    public boolean value(int v) {
        return values.put(v, false);
    }

    public boolean nothing() {
        return values.put(0, true);
    }

    public int row(int table) throws IllegalArgumentException, IllegalStateException {
        int width = tables.width(table);
        boolean alike = width > 0 && width == values.size();
        boolean full = tables.height(table) >= MOST_ROWS;
        if (alike && !full) {
            tables.append(table, values);
        }
        values.clear();
        if (!alike) {
            throw new IllegalArgumentException("no such table, or not as many values as it has columns");
        }
        if (full) {
            throw new IllegalStateException("the table is full");
        }
        return tables.height(table);
    }

    public int drop(int table) {
        return tables.dropFirst(table);
    }

    public boolean ask(char c) {
        return text.append(c);
    }

    public int compile() throws IllegalArgumentException {
        text.splitInto(tokens);
        text.clear();
        answer.clear(0);
        illPlace = parser.readQuery() ? checker.firstIll() : tokens.nextPlace();
        hasQuery = illPlace == NONE;
        if (!hasQuery) {
            throw new IllegalArgumentException("the text is ill");
        }
        query.settle();
        return query.itemCount();
    }

    public int place() {
        return illPlace;
    }

    public int run() throws IllegalStateException, UnsupportedOperationException {
        if (!hasQuery) {
            throw new IllegalStateException("there is no query");
        }
        if (!loops.goThroughAll()) {
            answer.clear(0);
            throw new UnsupportedOperationException("the result would have too many rows");
        }
        return answer.height();
    }

    public int looked() {
        return loops.seen();
    }

    public int rows() {
        return answer.height();
    }

    public boolean isNull(int r, int k) {
        return answer.has(r, k) && answer.unknownAt(r, k);
    }

    public long result(int r, int k) {
        return answer.has(r, k) ? answer.numberAt(r, k) : 0L;
    }

    private static int get(int[] list, int i) {
        return i >= 0 && i < list.length ? list[i] : NONE;
    }

    /** The values for the next row. */
    private static final class Values {
        private final int[] numbers = new int[MOST_COLUMNS];
        private final boolean[] unknowns = new boolean[MOST_COLUMNS];
        private int size = 0;

        int size() {
            return size;
        }

        void clear() {
            size = 0;
        }

        boolean put(int number, boolean unknown) {
            if (size < 0 || size >= MOST_COLUMNS) {
                return false;
            }
            numbers[size] = number;
            unknowns[size] = unknown;
            size++;
            return true;
        }

        int numberAt(int i) {
            return i >= 0 && i < MOST_COLUMNS ? numbers[i] : 0;
        }

        boolean unknownAt(int i) {
            return i >= 0 && i < MOST_COLUMNS && unknowns[i];
        }
    }

    /** All tables, cell behind cell; a table of no width isn't there. */
    private static final class Tables {
        private final int[] widths = new int[TABLES];
        private final int[] heights = new int[TABLES];
        private final int[] numbers = new int[TABLES * MOST_ROWS * MOST_COLUMNS];
        private final boolean[] unknowns = new boolean[TABLES * MOST_ROWS * MOST_COLUMNS];

        int width(int table) {
            return table >= 0 && table < TABLES ? widths[table] : 0;
        }

        int height(int table) {
            return table >= 0 && table < TABLES ? heights[table] : 0;
        }

        boolean make(int table, int columns) {
            if (table < 0 || table >= TABLES || columns < 1 || columns > MOST_COLUMNS) {
                return false;
            }
            widths[table] = columns;
            heights[table] = 0;
            return true;
        }

        void append(int table, Values line) {
            int height = height(table);
            if (table < 0 || table >= TABLES || height >= MOST_ROWS) {
                return;
            }
            heights[table] = height + 1;
            for (int k = 0; k < MOST_COLUMNS; k++) {
                int cell = cellOf(table, height, k);
                if (cell != NONE) {
                    numbers[cell] = line.numberAt(k);
                    unknowns[cell] = line.unknownAt(k);
                }
            }
        }

        int dropFirst(int table) {
            if (table < 0 || table >= TABLES || heights[table] <= 0) {
                return NONE;
            }
            int first = table * MOST_ROWS * MOST_COLUMNS;
            int last = first + (MOST_ROWS - 1) * MOST_COLUMNS;
            for (int cell = first; cell < last; cell++) {
                numbers[cell] = numbers[cell + MOST_COLUMNS];
                unknowns[cell] = unknowns[cell + MOST_COLUMNS];
            }
            heights[table]--;
            return heights[table];
        }

        int numberAt(int table, int line, int column) {
            int cell = cellOf(table, line, column);
            return cell == NONE ? 0 : numbers[cell];
        }

        /** True also for a cell that isn't there: so a cursor on no line reads NULL everywhere. */
        boolean unknownAt(int table, int line, int column) {
            int cell = cellOf(table, line, column);
            return cell == NONE || unknowns[cell];
        }

        private int cellOf(int table, int line, int column) {
            if (table < 0 || table >= TABLES || line < 0 || line >= MOST_ROWS || line >= heights[table]
                    || column < 0 || column >= MOST_COLUMNS || column >= widths[table]) {
                return NONE;
            }
            return (table * MOST_ROWS + line) * MOST_COLUMNS + column;
        }
    }

    /** The text that is asked, and how it falls into tokens. */
    private static final class Text {
        private final char[] codes = new char[MOST_CHARACTERS];
        private int length = 0;

        boolean append(char c) {
            if (c < 32 || c > 126 || length < 0 || length >= MOST_CHARACTERS) {
                return false;
            }
            codes[length] = c;
            length++;
            return true;
        }

        void clear() {
            length = 0;
        }

        /**
         * All tokens at once: one that is ill stands as BAD at its beginning, and nothing is told of it
         * unless the parser comes as far, as if the characters were looked at only then.
         */
        void splitInto(Tokens tokens) {
            tokens.clear();
            int end = 0;
            for (int at = 0; at < length; at++) {
                if (at >= end && codeAt(at) != ' ') {
                    end = readToken(at, tokens);
                }
            }
            tokens.add(END, length, 0);
        }

        private char codeAt(int i) {
            return i >= 0 && i < length && i < MOST_CHARACTERS ? codes[i] : ' ';
        }

        private int readToken(int at, Tokens tokens) {
            char c = codeAt(at);
            int code = c;
            if (isSmall(c)) {
                int end = endOfWord(at);
                tokens.add(end == at + 1 ? code : wordKind(at, end), at, 0);
                return end;
            }
            if (c == '-' || isDigit(c)) {
                return readNumeral(at, tokens);
            }
            tokens.add(isCapital(c) || isSign(c) ? code : BAD, at, 0);
            return at + 1;
        }

        private int endOfWord(int at) {
            int end = at;
            for (int i = at; i < length && isSmall(codeAt(i)); i++) {
                end = i + 1;
            }
            return end;
        }

        private int readNumeral(int at, Tokens tokens) {
            boolean minus = codeAt(at) == '-';
            int begin = minus ? at + 1 : at;
            int end = begin;
            int number = 0;
            for (int i = begin; i < length && isDigit(codeAt(i)); i++) {
                number = number * 10 + (codeAt(i) - '0');
                end = i + 1;
            }
            boolean right = end > begin && end - begin <= MOST_DIGITS;
            tokens.add(right ? NUMERAL : BAD, at, minus ? -number : number);
            return end;
        }

        private int wordKind(int at, int end) {
            if (spells(at, end, "select")) return SELECT;
            if (spells(at, end, "from")) return FROM;
            if (spells(at, end, "join")) return JOIN;
            if (spells(at, end, "left")) return LEFT;
            if (spells(at, end, "on")) return ON;
            if (spells(at, end, "where")) return WHERE;
            if (spells(at, end, "group")) return GROUP;
            if (spells(at, end, "count")) return COUNT;
            if (spells(at, end, "sum")) return SUM;
            if (spells(at, end, "min")) return MIN;
            if (spells(at, end, "max")) return MAX;
            if (spells(at, end, "or")) return OR;
            if (spells(at, end, "and")) return AND;
            if (spells(at, end, "not")) return NOT;
            if (spells(at, end, "is")) return IS;
            if (spells(at, end, "null")) return NULL;
            return BAD;
        }

        private boolean spells(int at, int end, String word) {
            if (end - at != word.length()) {
                return false;
            }
            for (int i = 0; i < word.length(); i++) {
                if (codeAt(at + i) != word.charAt(i)) {
                    return false;
                }
            }
            return true;
        }

        private static boolean isSmall(char c) {
            return c >= 'a' && c <= 'z';
        }

        private static boolean isCapital(char c) {
            return c >= 'A' && c <= 'Z';
        }

        private static boolean isDigit(char c) {
            return c >= '0' && c <= '9';
        }

        private static boolean isSign(char c) {
            return "(),.=<>".indexOf(c) >= 0;
        }
    }

    /** The tokens of a text, the last of them END, and the one that the parser needs next. */
    private static final class Tokens {
        private final int[] kinds = new int[MOST_CHARACTERS + 1];
        private final int[] places = new int[MOST_CHARACTERS + 1];
        private final int[] numbers = new int[MOST_CHARACTERS + 1];
        private int count = 0;
        private int next = 0;

        void clear() {
            count = 0;
            next = 0;
        }

        void add(int kind, int at, int number) {
            if (count >= 0 && count < kinds.length) {
                kinds[count] = kind;
                places[count] = at;
                numbers[count] = number;
                count++;
            }
        }

        int nextKind() {
            return next >= 0 && next < count && next < kinds.length ? kinds[next] : END;
        }

        int nextPlace() {
            return next >= 0 && next < count && next < places.length ? places[next] : 0;
        }

        int nextNumber() {
            return next >= 0 && next < count && next < numbers.length ? numbers[next] : 0;
        }

        void advance() {
            if (next < count - 1) {
                next++;
            }
        }

        boolean take(int kind) {
            if (nextKind() != kind) {
                return false;
            }
            advance();
            return true;
        }
    }

    /**
     * The columns, numerals and nulls that a query names, each with the value that it has now: that of a
     * column changes when a line of its item is loaded. Columns of outs and groups are here too.
     */
    private static final class Operands {
        private final int[] places = new int[MOST_CHARACTERS];
        private final int[] aliases = new int[MOST_CHARACTERS];
        private final int[] letters = new int[MOST_CHARACTERS];
        private final int[] lastItems = new int[MOST_CHARACTERS];
        private final int[] items = new int[MOST_CHARACTERS];
        private final int[] numbers = new int[MOST_CHARACTERS];
        private final boolean[] unknowns = new boolean[MOST_CHARACTERS];
        private int count = 0;

        void clear() {
            count = 0;
        }

        int count() {
            return count;
        }

        /**
         * lastItem: the last item that the column may be of, where it stands. Every operand has a
         * character of its own in the text, so there is always room.
         */
        int addColumn(int at, int alias, int letter, int lastItem) {
            if (count < 0 || count >= MOST_CHARACTERS) {
                return NONE;
            }
            places[count] = at;
            aliases[count] = alias;
            letters[count] = letter;
            lastItems[count] = lastItem;
            items[count] = NONE;
            numbers[count] = 0;
            unknowns[count] = true;
            count++;
            return count - 1;
        }

        int addConstant(int number, boolean unknown) {
            int i = addColumn(NONE, NONE, NONE, NONE);
            if (i >= 0 && i < MOST_CHARACTERS) {
                numbers[i] = number;
                unknowns[i] = unknown;
            }
            return i;
        }

        boolean isColumn(int i) {
            return get(aliases, i) != NONE;
        }

        int placeOf(int i) {
            return get(places, i);
        }

        int aliasOf(int i) {
            return get(aliases, i);
        }

        int letterOf(int i) {
            return get(letters, i);
        }

        int lastItemOf(int i) {
            return get(lastItems, i);
        }

        int itemOf(int i) {
            return get(items, i);
        }

        void setItem(int i, int item) {
            if (i >= 0 && i < MOST_CHARACTERS) {
                items[i] = item;
            }
        }

        boolean sameColumn(int i, int j) {
            return aliasOf(i) == aliasOf(j) && letterOf(i) == letterOf(j);
        }

        int numberOf(int i) {
            return i >= 0 && i < MOST_CHARACTERS ? numbers[i] : 0;
        }

        boolean unknownOf(int i) {
            return i < 0 || i >= MOST_CHARACTERS || unknowns[i];
        }

        void load(int item, Tables tables, int table, int line) {
            for (int i = 0; i < count && i < MOST_CHARACTERS; i++) {
                if (items[i] == item) {
                    numbers[i] = tables.numberAt(table, line, letters[i]);
                    unknowns[i] = tables.unknownAt(table, line, letters[i]);
                }
            }
        }
    }

    /**
     * The conditions as steps, each test or joining word behind what it works on, and the parts into
     * which they fall. The condition of an item falls into parts as that of where does: it is true if
     * all of its parts are.
     */
    private static final class Steps {
        private final Operands operands;
        private final int[] kinds = new int[MOST_CHARACTERS];
        private final int[] lefts = new int[MOST_CHARACTERS];
        private final int[] rights = new int[MOST_CHARACTERS];
        private int count = 0;
        private final int[] partBegins = new int[MOST_CHARACTERS];
        private final int[] partEnds = new int[MOST_CHARACTERS];
        private final int[] partItems = new int[MOST_CHARACTERS];
        private final boolean[] partWheres = new boolean[MOST_CHARACTERS];
        private int parts = 0;
        private final int[] truths = new int[MOST_CHARACTERS];

        Steps(Operands operands) {
            this.operands = operands;
        }

        void clear() {
            count = 0;
            parts = 0;
        }

        int count() {
            return count;
        }

        int partCount() {
            return parts;
        }

        // Every step has a character of its own in the text, so there is always room.
        void add(int kind, int left, int right) {
            if (count >= 0 && count < MOST_CHARACTERS) {
                kinds[count] = kind;
                lefts[count] = left;
                rights[count] = right;
                count++;
            }
        }

        /** Makes the steps from begin on one part, the one behind the first kept ones. */
        void addPart(int kept, int begin, int item, boolean where) {
            if (kept >= 0 && kept < MOST_CHARACTERS) {
                partBegins[kept] = begin;
                partEnds[kept] = count;
                partItems[kept] = item;
                partWheres[kept] = where;
                parts = kept + 1;
            }
        }

        /** Gives the parts of where to the items that they belong to. */
        void settle() {
            for (int p = 0; p < parts && p < MOST_CHARACTERS; p++) {
                if (partWheres[p]) {
                    partItems[p] = lastItemIn(partBegins[p], partEnds[p]);
                }
            }
        }

        private int lastItemIn(int begin, int end) {
            int last = 0;
            for (int s = Math.max(begin, 0); s < end && s < MOST_CHARACTERS; s++) {
                last = Math.max(last, operands.itemOf(lefts[s]));
                last = Math.max(last, operands.itemOf(rights[s]));
            }
            return last;
        }

        /** Whether all parts of the item's own condition, or of where, that belong to it are true. */
        boolean allTrue(int item, boolean where) {
            for (int p = 0; p < parts && p < MOST_CHARACTERS; p++) {
                if (partItems[p] == item && partWheres[p] == where
                        && truthOf(partBegins[p], partEnds[p]) != TRUE) {
                    return false;
                }
            }
            return true;
        }

        private int truthOf(int begin, int end) {
            int height = 0;
            for (int s = Math.max(begin, 0); s < end && s < MOST_CHARACTERS; s++) {
                int kind = kinds[s];
                if (kind == NOT) {
                    turnTop(height);
                } else if (kind == AND || kind == OR) {
                    height = joinTop(height, kind);
                } else if (height < MOST_CHARACTERS) {
                    truths[height] = testOf(kind, lefts[s], rights[s]);
                    height++;
                }
            }
            return height > 0 ? truths[0] : UNKNOWN;
        }

        private void turnTop(int height) {
            if (height > 0 && height <= MOST_CHARACTERS) {
                truths[height - 1] = TRUE - truths[height - 1];
            }
        }

        private int joinTop(int height, int kind) {
            if (height < 2 || height > MOST_CHARACTERS) {
                return height;
            }
            int a = truths[height - 2];
            int b = truths[height - 1];
            truths[height - 2] = kind == AND ? Math.min(a, b) : Math.max(a, b);
            return height - 1;
        }

        private int testOf(int kind, int left, int right) {
            if (kind == IS) {
                return operands.unknownOf(left) ? TRUE : FALSE;
            }
            if (operands.unknownOf(left) || operands.unknownOf(right)) {
                return UNKNOWN;
            }
            int order = Integer.compare(operands.numberOf(left), operands.numberOf(right));
            boolean holds = kind == '<' ? order < 0 : kind == '>' ? order > 0 : order == 0;
            return holds ? TRUE : FALSE;
        }
    }

    /** What a text asks for: the items, the outs, the columns to group by, and the conditions' steps. */
    private static final class Query {
        private final Operands operands = new Operands();
        private final Steps steps = new Steps(operands);
        private final int[] itemTables = new int[MOST_ITEMS];
        private final int[] tablePlaces = new int[MOST_ITEMS];
        private final int[] aliases = new int[MOST_ITEMS];
        private final int[] aliasPlaces = new int[MOST_ITEMS];
        private final boolean[] lefts = new boolean[MOST_ITEMS];
        private int items = 0;
        private final int[] outKinds = new int[MOST_OUTS];
        private final int[] outColumns = new int[MOST_OUTS];
        private int outs = 0;
        private final int[] groupColumns = new int[MOST_GROUPED];
        private int grouped = 0;

        void clear() {
            operands.clear();
            steps.clear();
            items = 0;
            outs = 0;
            grouped = 0;
        }

        void settle() {
            steps.settle();
        }

        Operands operands() {
            return operands;
        }

        Steps steps() {
            return steps;
        }

        void addItem(int table, int tablePlace, int alias, int aliasPlace, boolean left) {
            if (items >= 0 && items < MOST_ITEMS) {
                itemTables[items] = table;
                tablePlaces[items] = tablePlace;
                aliases[items] = alias;
                aliasPlaces[items] = aliasPlace;
                lefts[items] = left;
                items++;
            }
        }

        void addOut(int kind, int column) {
            if (outs >= 0 && outs < MOST_OUTS) {
                outKinds[outs] = kind;
                outColumns[outs] = column;
                outs++;
            }
        }

        void addGrouped(int column) {
            if (grouped >= 0 && grouped < MOST_GROUPED) {
                groupColumns[grouped] = column;
                grouped++;
            }
        }

        int itemCount() {
            return items;
        }

        int tableOf(int item) {
            return get(itemTables, item);
        }

        int tablePlaceOf(int item) {
            return get(tablePlaces, item);
        }

        int aliasOf(int item) {
            return get(aliases, item);
        }

        int aliasPlaceOf(int item) {
            return get(aliasPlaces, item);
        }

        boolean isLeft(int item) {
            return item >= 0 && item < MOST_ITEMS && lefts[item];
        }

        /** The first item with this alias, or NONE. */
        int itemWith(int alias) {
            for (int i = 0; i < items && i < MOST_ITEMS; i++) {
                if (aliases[i] == alias) {
                    return i;
                }
            }
            return NONE;
        }

        boolean uses(int table) {
            for (int i = 0; i < items && i < MOST_ITEMS; i++) {
                if (itemTables[i] == table) {
                    return true;
                }
            }
            return false;
        }

        int outCount() {
            return outs;
        }

        int outKind(int k) {
            return get(outKinds, k);
        }

        int outColumn(int k) {
            return get(outColumns, k);
        }

        int groupedCount() {
            return grouped;
        }

        int groupColumn(int g) {
            return get(groupColumns, g);
        }

        boolean groupsBy(int column) {
            for (int g = 0; g < grouped && g < MOST_GROUPED; g++) {
                if (operands.sameColumn(groupColumns[g], column)) {
                    return true;
                }
            }
            return false;
        }

        /** Whether those found are gathered, and not each a row of the result. */
        boolean gathers() {
            for (int k = 0; k < outs && k < MOST_OUTS; k++) {
                if (outKinds[k] != COLUMN) {
                    return true;
                }
            }
            return grouped > 0;
        }
    }

    /**
     * Reads the tokens into a query. Every method answers whether it went well; if not, the token that
     * is next then is the one at which the text is ill.
     */
    private static final class Parser {
        private final Tokens tokens;
        private final Query query;
        private final Operands operands;
        private final Steps steps;
        // The item whose condition is read; MOST_ITEMS where a column may be of any item.
        private int lastItem = MOST_ITEMS;

        Parser(Tokens tokens, Query query) {
            this.tokens = tokens;
            this.query = query;
            this.operands = query.operands();
            this.steps = query.steps();
        }

        boolean readQuery() {
            query.clear();
            lastItem = MOST_ITEMS;
            return tokens.take(SELECT) && readOuts()
                    && tokens.take(FROM) && readItem(false) && readJoined()
                    && readWhere() && readGroup() && tokens.nextKind() == END;
        }

        private boolean readOuts() {
            if (!readOut()) {
                return false;
            }
            for (int n = 1; n < MOST_OUTS; n++) {
                if (!tokens.take(',')) {
                    return true;
                }
                if (!readOut()) {
                    return false;
                }
            }
            return true;
        }

        private boolean readOut() {
            int kind = tokens.nextKind();
            if (kind == COUNT) {
                tokens.advance();
                query.addOut(COUNT, NONE);
                return true;
            }
            boolean gathering = kind == SUM || kind == MIN || kind == MAX;
            if (gathering) {
                tokens.advance();
                if (!tokens.take('(')) {
                    return false;
                }
            }
            int column = readColumn();
            if (column == NONE) {
                return false;
            }
            query.addOut(gathering ? kind : COLUMN, column);
            return !gathering || tokens.take(')');
        }

        private boolean readItem(boolean left) {
            int table = tokens.nextKind() - 'T';
            int tablePlace = tokens.nextPlace();
            if (table < 0 || table >= TABLES) {
                return false;
            }
            tokens.advance();
            int alias = tokens.nextKind();
            if (!isAlias(alias)) {
                return false;
            }
            query.addItem(table, tablePlace, alias, tokens.nextPlace(), left);
            tokens.advance();
            return true;
        }

        private boolean readJoined() {
            for (int item = 1; item < MOST_ITEMS; item++) {
                int kind = tokens.nextKind();
                if (kind != JOIN && kind != LEFT) {
                    break;
                }
                tokens.advance();
                lastItem = item;
                if (!readItem(kind == LEFT) || !tokens.take(ON) || !readCondition(0)) {
                    return false;
                }
            }
            lastItem = MOST_ITEMS;
            return true;
        }

        private boolean readWhere() {
            return !tokens.take(WHERE) || readCondition(0);
        }

        private boolean readGroup() {
            if (!tokens.take(GROUP)) {
                return true;
            }
            for (int n = 1; n <= MOST_GROUPED; n++) {
                int column = readColumn();
                if (column == NONE) {
                    return false;
                }
                query.addGrouped(column);
                if (n == MOST_GROUPED || !tokens.take(',')) {
                    break;
                }
            }
            return true;
        }

        /** open: how many not and ( are open round it. */
        private boolean readCondition(int open) {
            int begin = steps.count();
            int partsBefore = steps.partCount();
            if (!readConjunction(open)) {
                return false;
            }
            for (int n = 0; n < MOST_CHARACTERS && tokens.nextKind() == OR; n++) {
                tokens.advance();
                if (!readConjunction(open)) {
                    return false;
                }
                steps.add(OR, NONE, NONE);
                // Its tests are no parts any more: only the whole is one.
                notePart(open, partsBefore, begin);
            }
            return true;
        }

        private boolean readConjunction(int open) {
            if (!readPart(open)) {
                return false;
            }
            for (int n = 0; n < MOST_CHARACTERS && tokens.nextKind() == AND; n++) {
                tokens.advance();
                if (!readPart(open)) {
                    return false;
                }
                steps.add(AND, NONE, NONE);
            }
            return true;
        }

        private boolean readPart(int open) {
            int begin = steps.count();
            if (!readTest(open)) {
                return false;
            }
            notePart(open, steps.partCount(), begin);
            return true;
        }

        private void notePart(int open, int kept, int begin) {
            if (open == 0) {
                steps.addPart(kept, begin, lastItem, lastItem == MOST_ITEMS);
            }
        }

        private boolean readTest(int open) {
            int kind = tokens.nextKind();
            if (kind != NOT && kind != '(') {
                return readComparison();
            }
            if (open >= MOST_OPEN) {
                return false;
            }
            tokens.advance();
            if (kind == '(') {
                return readCondition(open + 1) && tokens.take(')');
            }
            if (!readTest(open + 1)) {
                return false;
            }
            steps.add(NOT, NONE, NONE);
            return true;
        }

        private boolean readComparison() {
            int left = readOperand();
            if (left == NONE) {
                return false;
            }
            int kind = tokens.nextKind();
            if (kind != IS && kind != '=' && kind != '<' && kind != '>') {
                return false;
            }
            tokens.advance();
            if (kind == IS) {
                steps.add(IS, left, NONE);
                return tokens.take(NULL);
            }
            int right = readOperand();
            steps.add(kind, left, right);
            return right != NONE;
        }

        private int readOperand() {
            int kind = tokens.nextKind();
            if (kind != NUMERAL && kind != NULL) {
                return readColumn();
            }
            int number = tokens.nextNumber();
            tokens.advance();
            return operands.addConstant(number, kind == NULL);
        }

        /** The operand that the column became, or NONE if there is no column. */
        private int readColumn() {
            int at = tokens.nextPlace();
            int alias = tokens.nextKind();
            if (!isAlias(alias)) {
                return NONE;
            }
            tokens.advance();
            if (tokens.nextKind() != '.') {
                return NONE;
            }
            tokens.advance();
            int letter = tokens.nextKind() - 'a';
            if (letter < 0 || letter >= MOST_COLUMNS) {
                return NONE;
            }
            tokens.advance();
            return operands.addColumn(at, alias, letter, lastItem);
        }

        private static boolean isAlias(int kind) {
            return kind >= 'w' && kind <= 'z';
        }
    }

    /** Looks for the first token at which a query of the right syntax is ill, and finds the columns' items. */
    private static final class Checker {
        private final Query query;
        private final Operands operands;
        private final Tables tables;
        private int ill = NONE;

        Checker(Query query, Tables tables) {
            this.query = query;
            this.operands = query.operands();
            this.tables = tables;
        }

        int firstIll() {
            ill = NONE;
            checkItems();
            checkColumns();
            checkOuts();
            return ill;
        }

        private void noteIll(int at) {
            if (ill == NONE || at < ill) {
                ill = at;
            }
        }

        private void checkItems() {
            for (int i = 0; i < query.itemCount(); i++) {
                if (tables.width(query.tableOf(i)) == 0) {
                    noteIll(query.tablePlaceOf(i));
                }
                if (query.itemWith(query.aliasOf(i)) != i) {
                    noteIll(query.aliasPlaceOf(i));
                }
            }
        }

        private void checkColumns() {
            for (int c = 0; c < operands.count(); c++) {
                if (operands.isColumn(c)) {
                    int item = query.itemWith(operands.aliasOf(c));
                    operands.setItem(c, item);
                    if (item == NONE || item > operands.lastItemOf(c)
                            || operands.letterOf(c) >= tables.width(query.tableOf(item))) {
                        noteIll(operands.placeOf(c));
                    }
                }
            }
        }

        private void checkOuts() {
            if (!query.gathers()) {
                return;
            }
            for (int k = 0; k < query.outCount(); k++) {
                int column = query.outColumn(k);
                if (query.outKind(k) == COLUMN && !query.groupsBy(column)) {
                    noteIll(operands.placeOf(column));
                }
            }
        }
    }

    /** The result: no rows and no columns if there is none. */
    private static final class Answer {
        private final long[] numbers = new long[MOST_FOUND * MOST_OUTS];
        private final boolean[] unknowns = new boolean[MOST_FOUND * MOST_OUTS];
        private int width = 0;
        private int height = 0;

        void clear(int columns) {
            width = columns;
            height = 0;
        }

        int height() {
            return height;
        }

        /** The line that is new then, or NONE if there would be too many. */
        int append() {
            if (height >= MOST_FOUND) {
                return NONE;
            }
            height++;
            return height - 1;
        }

        boolean has(int r, int k) {
            return r >= 0 && r < height && r < MOST_FOUND && k >= 0 && k < width && k < MOST_OUTS;
        }

        boolean unknownAt(int r, int k) {
            return has(r, k) && unknowns[r * MOST_OUTS + k];
        }

        /** 0 where it is NULL, since set writes that. */
        long numberAt(int r, int k) {
            return has(r, k) ? numbers[r * MOST_OUTS + k] : 0L;
        }

        void set(int r, int k, long number, boolean unknown) {
            if (has(r, k)) {
                numbers[r * MOST_OUTS + k] = unknown ? 0L : number;
                unknowns[r * MOST_OUTS + k] = unknown;
            }
        }
    }

    /** Runs a query: cursors go through its items, and what passes the last one becomes the result. */
    private static final class Loops {
        private final Query query;
        private final Operands operands;
        private final Steps steps;
        private final Tables tables;
        private final Answer answer;
        // What each line of the result has in the columns to group by.
        private final int[] keyNumbers = new int[MOST_FOUND * MOST_GROUPED];
        private final boolean[] keyUnknowns = new boolean[MOST_FOUND * MOST_GROUPED];
        private boolean gathers = false;
        private int seen = 0;

        Loops(Query query, Tables tables, Answer answer) {
            this.query = query;
            this.operands = query.operands();
            this.steps = query.steps();
            this.tables = tables;
            this.answer = answer;
        }

        int seen() {
            return seen;
        }

        /** False if the run stops. */
        boolean goThroughAll() {
            seen = 0;
            gathers = query.gathers();
            answer.clear(query.outCount());
            if (gathers && query.groupedCount() == 0) {
                begin(answer.append());
            }
            return goThrough(0);
        }

        private boolean goThrough(int item) {
            if (item >= query.itemCount() || item >= MOST_ITEMS) {
                return gather();
            }
            int table = query.tableOf(item);
            int height = tables.height(table);
            boolean fitted = false;
            for (int line = 0; line < height; line++) {
                seen++;
                operands.load(item, tables, table, line);
                if (steps.allTrue(item, false)) {
                    fitted = true;
                    if (!goOn(item)) {
                        return false;
                    }
                }
            }
            if (fitted || !query.isLeft(item)) {
                return true;
            }
            operands.load(item, tables, table, NONE);
            return goOn(item);
        }

        private boolean goOn(int item) {
            return !steps.allTrue(item, true) || goThrough(item + 1);
        }

        /** Takes what is found now into the result; false if that would make a line too many. */
        private boolean gather() {
            int line = gathers ? lineOfGroup() : NONE;
            if (line == NONE) {
                line = answer.append();
                if (line == NONE) {
                    return false;
                }
                begin(line);
            }
            for (int k = 0; k < query.outCount(); k++) {
                tally(line, k, query.outKind(k), query.outColumn(k));
            }
            return true;
        }

        private int lineOfGroup() {
            for (int line = 0; line < answer.height(); line++) {
                if (isOfGroup(line)) {
                    return line;
                }
            }
            return NONE;
        }

        private boolean isOfGroup(int line) {
            for (int g = 0; g < query.groupedCount(); g++) {
                int key = keyOf(line, g);
                int column = query.groupColumn(g);
                if (key == NONE || keyUnknowns[key] != operands.unknownOf(column)
                        || !keyUnknowns[key] && keyNumbers[key] != operands.numberOf(column)) {
                    return false;
                }
            }
            return true;
        }

        private static int keyOf(int line, int g) {
            return line >= 0 && line < MOST_FOUND && g >= 0 && g < MOST_GROUPED ? line * MOST_GROUPED + g : NONE;
        }

        /** Writes the line as it is before anything is tallied in it. */
        private void begin(int line) {
            for (int g = 0; g < query.groupedCount(); g++) {
                int key = keyOf(line, g);
                if (key != NONE) {
                    keyNumbers[key] = operands.numberOf(query.groupColumn(g));
                    keyUnknowns[key] = operands.unknownOf(query.groupColumn(g));
                }
            }
            for (int k = 0; k < query.outCount(); k++) {
                int kind = query.outKind(k);
                int column = query.outColumn(k);
                if (kind == COLUMN) {
                    answer.set(line, k, operands.numberOf(column), operands.unknownOf(column));
                } else {
                    answer.set(line, k, 0L, kind != COUNT);
                }
            }
        }

        private void tally(int line, int k, int kind, int column) {
            long before = answer.numberAt(line, k);
            if (kind == COUNT) {
                answer.set(line, k, before + 1, false);
            } else if (kind != COLUMN && !operands.unknownOf(column)) {
                long number = operands.numberOf(column);
                boolean first = answer.unknownAt(line, k);
                answer.set(line, k, first ? number : joined(kind, before, number), false);
            }
        }

        private static long joined(int kind, long before, long number) {
            if (kind == SUM) {
                return before + number;
            }
            return kind == MIN ? Math.min(before, number) : Math.max(before, number);
        }
    }
}
