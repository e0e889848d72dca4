import java.lang.reflect.Constructor;
import java.lang.reflect.Field;
import java.lang.reflect.Method;
import java.lang.reflect.Modifier;
import java.util.Set;
import java.util.TreeSet;

/** The public face, and promise 1: a new object. */
public final class FaceTest {
    private static final Checks CHECKS = new Checks("FaceTest");

    public static void main(String[] args) {
        face();
        none();
        newObject();
        CHECKS.end();
    }

    private static void face() {
        Class<?> c = QueryLoops.class;
        CHECKS.due("modifiers", Modifier.toString(c.getModifiers()), "public final");
        Set<String> members = new TreeSet<>();
        for (Method m : c.getDeclaredMethods()) {
            if (!Modifier.isPrivate(m.getModifiers()) && !m.isSynthetic()) {
                members.add(m.toString().replace("QueryLoops.", "").replace("java.lang.", ""));
            }
        }
        for (Field f : c.getDeclaredFields()) {
            if (!Modifier.isPrivate(f.getModifiers()) && !f.isSynthetic()) {
                members.add(f.toString().replace("QueryLoops.", ""));
            }
        }
        for (Constructor<?> made : c.getDeclaredConstructors()) {
            members.add(made.toString());
        }
        CHECKS.due("members", members, new TreeSet<>(Set.of(
                "public static final int NONE",
                "public QueryLoops()",
                "public boolean declare(int,int)",
                "public boolean value(int)",
                "public boolean nothing()",
                "public int row(int) throws IllegalArgumentException,IllegalStateException",
                "public int drop(int)",
                "public boolean ask(char)",
                "public int compile() throws IllegalArgumentException",
                "public int place()",
                "public int run() throws IllegalStateException,UnsupportedOperationException",
                "public int looked()",
                "public int rows()",
                "public boolean isNull(int,int)",
                "public long result(int,int)")));
        CHECKS.due("above it", c.getSuperclass(), Object.class);
        CHECKS.due("interfaces", c.getInterfaces().length, 0);
        CHECKS.due("package", c.getPackageName(), "");
        for (Class<?> inside : c.getDeclaredClasses()) {
            CHECKS.due(inside + " static", Modifier.isStatic(inside.getModifiers()), true);
            CHECKS.due(inside + " private", Modifier.isPrivate(inside.getModifiers()), true);
        }
        for (Field f : c.getDeclaredFields()) {
            CHECKS.due(f + " final or no static", Modifier.isFinal(f.getModifiers())
                    || !Modifier.isStatic(f.getModifiers()), true);
        }
    }

    // Terms "The constants: NONE = -1": the same where it is answered
    private static void none() {
        CHECKS.due("NONE", QueryLoops.NONE, -1);
        CHECKS.due("place", new QueryLoops().place(), QueryLoops.NONE);
        CHECKS.due("drop", new QueryLoops().drop(0), QueryLoops.NONE);
    }

    private static void newObject() {
        QueryLoops x = new QueryLoops();
        CHECKS.due("place", x.place(), -1);
        CHECKS.due("looked", x.looked(), 0);
        CHECKS.due("rows", x.rows(), 0);
        CHECKS.due("isNull", x.isNull(0, 0), false);
        CHECKS.due("result", x.result(0, 0), 0L);
        CHECKS.due("run without a query", Checks.run(x), "throws.IllegalStateException");
        for (int table = -1; table <= 3; table++) {
            CHECKS.due("drop(" + table + ")", x.drop(table), -1);
            CHECKS.due("row(" + table + ")", Checks.row(x, table), "throws.IllegalArgumentException");
        }
        CHECKS.due("a new object has no text", Checks.compile(x, ""), "ill 0");
        QueryLoops y = new QueryLoops();
        for (int i = 0; i < 130; i++) {
            CHECKS.due("ask " + i, y.ask(' '), true);
        }
        CHECKS.due("ask one too many", y.ask(' '), false);
    }
}
