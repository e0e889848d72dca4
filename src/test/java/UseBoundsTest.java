import java.lang.management.ManagementFactory;
import java.lang.reflect.Array;
import java.lang.reflect.Field;
import java.lang.reflect.Modifier;
import java.util.ArrayDeque;
import java.util.Collections;
import java.util.Deque;
import java.util.IdentityHashMap;
import java.util.Set;

/**
 * "What it is": an object is used for at most 512 calls. The 512th call is still answered as the document says,
 * whatever the calls before were, and they all find room.
 */
public final class UseBoundsTest {
    private static final Checks CHECKS = new Checks("UseBoundsTest");
    private static final int CALLS = 512;
    private static final String DEAR = "select x.a,count,sum(y.a),max(z.a) from T x join T y on 1=1 join T z on 1=1 group x.a";

    public static void main(String[] args) {
        valuesAlone();
        nothingsAlone();
        charactersAlone();
        wrongCharactersAlone();
        dropsAlone();
        declaresAlone();
        rowsAlone();
        compilesAlone();
        runsAlone();
        questionsAlone();
        rowsComeAndGo();
        textsOf130();
        dearestRuns();
        smallObject();
        callsMakeNothing();
        CHECKS.end();
    }

    private static void valuesAlone() {
        QueryLoops x = new QueryLoops();
        for (int call = 1; call <= CALLS; call++) {
            CHECKS.due("value, call " + call, x.value(call), call <= 4);
        }
    }

    private static void nothingsAlone() {
        QueryLoops x = new QueryLoops();
        for (int call = 1; call <= CALLS; call++) {
            CHECKS.due("nothing, call " + call, x.nothing(), call <= 4);
        }
    }

    private static void charactersAlone() {
        QueryLoops x = new QueryLoops();
        for (int call = 1; call <= CALLS; call++) {
            CHECKS.due("ask, call " + call, x.ask('~'), call <= 130);
        }
    }

    private static void wrongCharactersAlone() {
        QueryLoops x = new QueryLoops();
        for (int call = 1; call <= CALLS - 2; call++) {
            CHECKS.due("ask, call " + call, x.ask((char) (call < 256 ? 31 : 127)), false);
        }
        CHECKS.due("compile", Checks.compile(x, ""), "ill 0");
    }

    private static void dropsAlone() {
        QueryLoops x = new QueryLoops();
        for (int call = 1; call <= CALLS; call++) {
            CHECKS.due("drop, call " + call, x.drop(call % 3), -1);
        }
    }

    private static void declaresAlone() {
        QueryLoops x = new QueryLoops();
        for (int call = 1; call <= CALLS; call++) {
            CHECKS.due("declare, call " + call, x.declare(call % 3, call % 6), call % 6 >= 1 && call % 6 <= 4);
        }
    }

    private static void rowsAlone() {
        QueryLoops x = new QueryLoops();
        x.declare(0, 1);
        for (int call = 2; call <= CALLS; call++) {
            CHECKS.due("row, call " + call, Checks.row(x, call % 2), "throws.IllegalArgumentException");
        }
    }

    private static void compilesAlone() {
        QueryLoops x = new QueryLoops();
        for (int call = 2; call <= CALLS; call += 2) {
            CHECKS.due("compile and place, call " + call, Checks.compile(x, ""), "ill 0");
        }
    }

    private static void runsAlone() {
        QueryLoops x = new QueryLoops();
        for (int call = 1; call <= CALLS; call++) {
            CHECKS.due("run, call " + call, Checks.run(x), "throws.IllegalStateException");
        }
    }

    private static void questionsAlone() {
        QueryLoops x = new QueryLoops();
        for (int call = 5; call <= CALLS; call += 5) {
            CHECKS.due("place", x.place(), -1);
            CHECKS.due("looked", x.looked(), 0);
            CHECKS.due("rows", x.rows(), 0);
            CHECKS.due("isNull", x.isNull(0, 0), false);
            CHECKS.due("result, call " + call, x.result(0, 0), 0L);
        }
    }

    /** 1 + 20 + 3 * n + 19 + 3 calls: with n = 156 they are 511, and the last result is the 512th. */
    private static void rowsComeAndGo() {
        QueryLoops x = new QueryLoops();
        x.declare(2, 1);
        for (int n = 1; n <= 10; n++) {
            Checks.put(x, 2, n);
        }
        for (int n = 11; n <= 10 + 156; n++) {
            CHECKS.due("drop", x.drop(2), 9);
            CHECKS.due("row", Checks.put(x, 2, n), "10");
        }
        CHECKS.due("compile", Checks.compile(x, "select x.a from V x"), "1");
        CHECKS.due("run", Checks.run(x), "10");
        CHECKS.due("the first", x.result(0, 0), 157L);
        CHECKS.due("the last, by the 512th call", x.result(9, 0), 166L);
    }

    /** As many tests and joining words as 512 calls can ask for: those of one text leave no less room for the next. */
    private static void textsOf130() {
        QueryLoops x = new QueryLoops();
        x.declare(0, 1);
        Checks.put(x, 0, 1);
        for (int n = 1; n <= 3; n++) {
            CHECKS.due("text " + n, Checks.compile(x, longText(130)), "1");
        }
        int left = CALLS - 3 - 3 * 131 - 3;
        CHECKS.due("the last text", Checks.compile(x, longText(left)), "1");
        CHECKS.due("is true by its last test", Checks.run(x), "1");
        CHECKS.due("the 512th call", x.result(0, 0), 1L);
    }

    private static String longText(int length) {
        StringBuilder text = new StringBuilder("select x.a fromTx where");
        String last = " x.a=1";
        while (text.length() + 5 + last.length() <= length) {
            text.append("1=2or");
        }
        return " ".repeat(length - text.length() - last.length()) + text + last;
    }

    private static QueryLoops dearest() {
        QueryLoops x = new QueryLoops();
        x.declare(0, 1);
        for (int n = 1; n <= 10; n++) {
            Checks.put(x, 0, n);
        }
        Checks.compile(x, DEAR);
        return x;
    }

    private static void dearestRuns() {
        QueryLoops x = dearest();
        int before = 1 + 20 + DEAR.length() + 1;
        for (int call = before + 1; call < CALLS - 1; call++) {
            CHECKS.due("run, call " + call, Checks.run(x), "10");
        }
        CHECKS.due("looked", x.looked(), 1110);
        CHECKS.due("the 512th call", x.result(9, 2), 550L);
    }

    /** All objects, fields and elements of one object, since those of all objects of a run live in one room. */
    private static void smallObject() {
        try {
            Set<Object> objects = Collections.newSetFromMap(new IdentityHashMap<>());
            int cells = cellsOf(dearest(), objects);
            CHECKS.due("objects: " + objects.size(), objects.size() < 100, true);
            CHECKS.due("fields and elements: " + cells, cells < 5000, true);
        } catch (IllegalAccessException e) {
            CHECKS.due("fields can be read", e, "");
        }
    }

    private static int cellsOf(Object first, Set<Object> objects) throws IllegalAccessException {
        Deque<Object> open = new ArrayDeque<>();
        open.add(first);
        int cells = 0;
        while (!open.isEmpty()) {
            Object o = open.remove();
            if (!objects.add(o)) {
                continue;
            }
            if (o.getClass().isArray()) {
                cells += Array.getLength(o);
                continue;
            }
            for (Field f : o.getClass().getDeclaredFields()) {
                if (Modifier.isStatic(f.getModifiers())) {
                    continue;
                }
                cells++;
                f.setAccessible(true);
                if (!f.getType().isPrimitive()) {
                    open.add(f.get(o));
                }
            }
        }
        return cells;
    }

    /** Calls that throw nothing make no objects at all: a bound is left for what the machine makes. */
    private static void callsMakeNothing() {
        com.sun.management.ThreadMXBean made = (com.sun.management.ThreadMXBean) ManagementFactory.getThreadMXBean();
        long thread = Thread.currentThread().getId();
        dearestCalls(dearest());
        QueryLoops x = dearest();
        long before = made.getThreadAllocatedBytes(thread);
        dearestCalls(x);
        long bytes = made.getThreadAllocatedBytes(thread) - before;
        CHECKS.due("bytes made: " + bytes, bytes < 4096, true);
    }

    private static void dearestCalls(QueryLoops x) {
        for (int n = 0; n < 50; n++) {
            x.run();
            x.looked();
            x.rows();
            x.isNull(n, 1);
            x.result(n, 1);
        }
        for (int i = 0; i < DEAR.length(); i++) {
            x.ask(DEAR.charAt(i));
        }
        x.compile();
        x.drop(0);
        x.value(3);
        x.row(0);
        x.run();
    }
}
