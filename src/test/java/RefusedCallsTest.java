import java.lang.reflect.InvocationTargetException;
import java.lang.reflect.Method;
import java.lang.reflect.Modifier;
import java.util.Arrays;
import java.util.Comparator;
import java.util.List;
import java.util.Set;

/**
 * Every method with numbers at all edges, in states of many kinds: it throws nothing but what its line of the face names,
 * a call that throws changes nothing, a question changes nothing, and a change is one that can be undone.
 */
final class RefusedCallsTest {
    private static final int[] EDGES = {Integer.MIN_VALUE, -1, 0, 1, 2, 3, 4, 5, 6, 9, 10, 20, 21, 23, 24, 25, 30, 31, 59, 60, 61,
        100, 101, 300, 301, 999, 1000, Integer.MAX_VALUE};
    private static final int[] FEWER_EDGES = {Integer.MIN_VALUE, -1, 0, 1, 2, 3, 5, 20, 24, 25, 30, 31, 999, 1000, Integer.MAX_VALUE};
    private static final Set<String> CHANGES = Set.of("run", "push", "protect", "grow", "drop", "pause", "setPolicy", "setTarget",
        "setCool", "setBounds", "transfer", "setLoad", "dropCold", "hurry");
    // These are neither changes nor questions, and have tests of their own.
    private static final Set<String> OTHERS = Set.of("appendInput", "truncateInput", "loadPools", "undo", "saveState", "restoreState",
        "printPool");

    private final PoolScaler scaler;
    private final String before;
    private int wrong;

    private RefusedCallsTest(PoolScaler scaler) {
        this.scaler = scaler;
        before = Checks.picture(scaler) + scaler.count(5);
    }

    public static void main(String[] args) throws ReflectiveOperationException {
        List<PoolScaler> states = List.of(new PoolScaler(), empty(), full(), busy());
        Method[] methods = PoolScaler.class.getDeclaredMethods();
        Arrays.sort(methods, Comparator.comparing(Method::getName));
        int wrong = 0;
        for (PoolScaler state : states) {
            RefusedCallsTest test = new RefusedCallsTest(state);
            for (Method method : methods) {
                if (Modifier.isPublic(method.getModifiers()) && !OTHERS.contains(method.getName())) {
                    test.callAll(method, new Object[method.getParameterCount()], 0);
                }
            }
            wrong += test.wrong;
        }
        System.out.println(wrong == 0 ? "all answers are as due" : wrong + " answers are not as due");
        if (wrong != 0) {
            System.exit(1);
        }
    }

    private static PoolScaler empty() {
        return Checks.pools("pool 0 1 1;pool 0 20 100;policy season 24;lead 8;window 8;");
    }

    private static PoolScaler full() {
        PoolScaler x = Checks.pools("pool 20 20 100;load 999;cost 99 99;protect 0;protect 19;".repeat(4));
        x.run(300);
        return x;
    }

    private static PoolScaler busy() {
        PoolScaler x = Checks.pools("pool 1 9 10;load 90 10 0 50 70 5;cool 0 0;window 2;step 3 4;drop cold;warm 1;cost 3 4;protect 0;"
            + "pool 2 8 7;load 3 60 60;cool 1 2;policy trend;drop oldest;pool 0 20 3;policy season 3;load 1 2 11;");
        x.run(100);
        x.pause(2, true);
        x.push(1, 40);
        x.grow(2, 2);
        return x;
    }

    private void callAll(Method method, Object[] arguments, int next) throws ReflectiveOperationException {
        if (next == arguments.length) {
            call(method, arguments);
            return;
        }
        if (method.getParameterTypes()[next] == boolean.class) {
            for (boolean value : new boolean[] {false, true}) {
                arguments[next] = value;
                callAll(method, arguments, next + 1);
            }
            return;
        }
        for (int value : arguments.length < 3 ? EDGES : FEWER_EDGES) {
            arguments[next] = value;
            callAll(method, arguments, next + 1);
        }
    }

    private void call(Method method, Object[] arguments) throws ReflectiveOperationException {
        boolean isChange = CHANGES.contains(method.getName());
        int changes = scaler.count(5);
        try {
            method.invoke(scaler, arguments);
            if (isChange) {
                expect(method, arguments, "is one change", scaler.count(5) == changes + 1);
                expect(method, arguments, "can be undone", scaler.undo() == changes);
            }
        } catch (InvocationTargetException e) {
            Class<?> thrown = e.getCause().getClass();
            expect(method, arguments, "threw " + thrown, Arrays.asList(method.getExceptionTypes()).contains(thrown));
        }
        // A change was undone by now, so all is as before after each call.
        expect(method, arguments, "left something else behind", before.equals(Checks.picture(scaler) + scaler.count(5)));
    }

    private void expect(Method method, Object[] arguments, String what, boolean holds) {
        if (!holds) {
            wrong++;
            System.out.println(method.getName() + Arrays.toString(arguments) + ": " + what);
        }
    }
}
