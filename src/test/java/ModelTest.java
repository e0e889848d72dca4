import java.util.Random;

/** All promises: made-up runs of calls, the same in every test, on an object and on the model. */
public final class ModelTest {
    private static final Checks CHECKS = new Checks("ModelTest");
    private static final int RUNS = 15000;
    private static final int MOST_CALLS = 512;
    // How many values of a result are asked for behind each call that may change it.
    private static final int CELLS = 12;
    // A few characters more than a text takes.
    private static final int MOST_ASKED = 135;
    private static final int MOST_OF_AN_ACT = MOST_ASKED + 4 + 2 * CELLS;

    private final Random random;
    private final QueryLoops x = new QueryLoops();
    private final Model m = new Model();
    private final StringBuilder told = new StringBuilder();
    private int calls = 0;
    private static int compiled = 0;
    private static int ran = 0;
    private static int stopped = 0;
    private static int filled = 0;

    private ModelTest(long seed) {
        random = new Random(seed);
    }

    public static void main(String[] args) {
        int runs = args.length > 0 ? Integer.parseInt(args[0]) : RUNS;
        for (int run = 0; run < runs; run++) {
            new ModelTest(run).go();
        }
        System.out.println("ModelTest: " + compiled + " compiled, " + ran + " ran, " + filled + " with rows, "
                + stopped + " stopped");
        CHECKS.due("enough of each", compiled > runs / 4 && filled > runs / 8 && stopped > runs / 200, true);
        CHECKS.end();
    }

    private void go() {
        boolean small = random.nextInt(3) == 0;
        for (int table = 0; table < 3; table++) {
            if (random.nextInt(12) > 0) {
                declare(table, 1 + random.nextInt(4));
                fill(table, small ? random.nextInt(3) : random.nextInt(7));
            }
        }
        while (calls + MOST_OF_AN_ACT <= MOST_CALLS) {
            act(random.nextInt(12));
        }
        CHECKS.due("calls in all", calls <= MOST_CALLS, true);
    }

    private void act(int what) {
        if (what < 4) {
            ask(what == 0 ? new Words(random).spoiled() : new Words(random).query());
            compile();
        } else if (what < 8) {
            run();
        } else if (what == 8) {
            drop(random.nextInt(20) == 0 ? random.nextInt() : random.nextInt(3));
        } else if (what == 9) {
            fill(random.nextInt(3), 1);
        } else if (what == 10 && random.nextInt(4) == 0) {
            declare(random.nextInt(5) - 1, random.nextInt(6));
        } else if (what == 11 && random.nextInt(4) == 0) {
            strange();
        }
    }

    private void due(String call, Object got, Object want) {
        calls++;
        if (!got.equals(want)) {
            System.out.println("behind: " + told);
        }
        CHECKS.due(call, got, want);
    }

    private void declare(int table, int columns) {
        told.append(" declare(" + table + "," + columns + ")");
        due("declare", x.declare(table, columns), m.declare(table, columns));
    }

    private void fill(int table, int rows) {
        for (int r = 0; r < rows; r++) {
            int width = 0;
            while (width < 4 && m.width(table) > width) {
                value();
                width++;
            }
            row(table);
        }
    }

    private void value() {
        if (random.nextInt(5) == 0) {
            told.append(" nothing");
            due("nothing", x.nothing(), m.put(null));
        } else {
            int v = random.nextInt(60) == 0 ? random.nextInt() : random.nextInt(5) - 1;
            told.append(" value(" + v + ")");
            due("value", x.value(v), m.put(v));
        }
    }

    private void row(int table) {
        told.append(" row(" + table + ")");
        due("row", Checks.row(x, table), m.row(table));
    }

    private void drop(int table) {
        told.append(" drop(" + table + ")");
        due("drop", x.drop(table), m.drop(table));
    }

    private void strange() {
        if (random.nextBoolean()) {
            value();
        }
        if (random.nextInt(3) == 0) {
            row(random.nextInt(5) - 1);
        }
        if (random.nextInt(3) == 0) {
            char c = (char) random.nextInt(65536);
            due("ask " + (int) c, x.ask(c), m.ask(c));
        }
    }

    private void ask(String text) {
        told.append(" ask \"" + text + "\"");
        for (int i = 0; i < text.length() && i < MOST_ASKED; i++) {
            due("ask", x.ask(text.charAt(i)), m.ask(text.charAt(i)));
        }
    }

    private void compile() {
        told.append(" compile");
        String got;
        try {
            got = "" + x.compile();
            compiled++;
        } catch (RuntimeException e) {
            got = Checks.thrown(e);
        }
        due("compile", got, m.compile());
        compare();
    }

    private void run() {
        told.append(" run");
        String got = Checks.run(x);
        due("run", got, m.run());
        ran += got.equals("throws.IllegalStateException") ? 0 : 1;
        stopped += got.equals("throws.UnsupportedOperationException") ? 1 : 0;
        filled += m.rows() > 0 ? 1 : 0;
        compare();
    }

    private void compare() {
        due("place", x.place(), m.place());
        due("looked", x.looked(), m.looked());
        due("rows", x.rows(), m.rows());
        for (int n = 0; n < (m.rows() == 0 ? 2 : CELLS); n++) {
            boolean inside = n % 4 > 0;
            int r = random.nextInt(m.rows() + (inside ? 1 : 3)) - (inside ? 0 : 1);
            int k = random.nextInt(inside ? 4 : 7) - (inside ? 0 : 1);
            due("isNull(" + r + ", " + k + ")", x.isNull(r, k), m.isNull(r, k));
            due("result(" + r + ", " + k + ")", x.result(r, k), m.result(r, k));
        }
    }
}
