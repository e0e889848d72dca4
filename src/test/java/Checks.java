/** What the tests share: counting what is wrong, and whole texts and rows instead of single calls. */
final class Checks {
    private final String name;
    private int done = 0;
    private int wrong = 0;

    Checks(String name) {
        this.name = name;
    }

    void due(String what, Object got, Object want) {
        done++;
        if (!got.equals(want)) {
            wrong++;
            System.out.println(name + ": " + what + " answered " + got + ", due is " + want);
        }
    }

    /** The text is right and has so many items. */
    void right(QueryLoops x, int items, String text) {
        due(text, compile(x, text), "" + items);
        due("place behind " + text, x.place(), QueryLoops.NONE);
    }

    /** The mark # stands at the place where the text is ill, and isn't part of it. */
    void ill(QueryLoops x, String marked) {
        String text = marked.replace("#", "");
        due(text, compile(x, text), "ill " + marked.indexOf('#'));
        due("run behind " + text, run(x), "throws.IllegalStateException");
        due("rows behind " + text, x.rows(), 0);
    }

    void end() {
        System.out.println(name + ": " + done + " checks, " + wrong + " wrong");
        if (wrong != 0) {
            System.exit(1);
        }
    }

    /** The exception's own class: one below it, or one that the machine throws, is another answer. */
    static String thrown(RuntimeException e) {
        return "throws." + e.getClass().getSimpleName();
    }

    static String row(QueryLoops x, int table) {
        try {
            return "" + x.row(table);
        } catch (RuntimeException e) {
            return thrown(e);
        }
    }

    /** Puts a row of numbers, null for NULL. */
    static String put(QueryLoops x, int table, Integer... numbers) {
        for (Integer n : numbers) {
            if (n == null) {
                x.nothing();
            } else {
                x.value(n);
            }
        }
        return row(x, table);
    }

    static void text(QueryLoops x, String text) {
        for (int i = 0; i < text.length(); i++) {
            x.ask(text.charAt(i));
        }
    }

    /** Asks the text and compiles it: how many items, or where it is ill. */
    static String compile(QueryLoops x, String text) {
        text(x, text);
        try {
            return "" + x.compile();
        } catch (RuntimeException e) {
            return e.getClass() == IllegalArgumentException.class ? "ill " + x.place() : thrown(e);
        }
    }

    static String run(QueryLoops x) {
        try {
            return "" + x.run();
        } catch (RuntimeException e) {
            return thrown(e);
        }
    }

    /** All that can be asked of a result, also just outside it: rows by ;, values by a blank, ? for NULL. */
    static String answer(QueryLoops x, int columns) {
        StringBuilder all = new StringBuilder();
        for (int r = 0; r < x.rows(); r++) {
            all.append(r == 0 ? "" : ";");
            for (int k = 0; k < columns; k++) {
                all.append(k == 0 ? "" : " ").append(x.isNull(r, k) ? "?" : "" + x.result(r, k));
                if (x.isNull(r, k) && x.result(r, k) != 0) {
                    all.append("(NULL, but not 0)");
                }
            }
            if (x.isNull(r, columns) || x.result(r, columns) != 0) {
                all.append(" (a column too many)");
            }
        }
        return all.toString();
    }

    /** Compiles and runs a query: its result, and behind it how many rows were looked at. */
    static String query(QueryLoops x, int columns, String text) {
        String compiled = compile(x, text);
        if (!compiled.matches("[1-3]")) {
            return compiled;
        }
        String ran = run(x);
        if (ran.startsWith("throws")) {
            return ran + " @" + x.looked();
        }
        return answer(x, columns) + " @" + x.looked();
    }
}
