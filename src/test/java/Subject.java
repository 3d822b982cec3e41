import java.lang.reflect.InvocationTargetException;
import java.lang.reflect.Method;
import java.util.Arrays;
import java.util.HashMap;
import java.util.Map;

/** An object of the class, or of the model, that is called by names, so that a row of a test is one line. */
final class Subject {
    static final int LOW = Integer.MIN_VALUE, HIGH = Integer.MAX_VALUE;
    static final int BAD = -1, FINDING = -3, STATE = -4, NONE = -9;
    static final int NOTHING = 1, BEYOND = 2, UNLIKE = 3, NOUGHT = 4, SIZE = 5;

    private static final int MOST_CALLS = 512;
    private static final Map<String, Method> OF_CLASS = methodsOf(LeafOrder.class);
    private static final Map<String, Method> OF_MODEL = methodsOf(PlainModel.class);

    private final Object called;
    private final Map<String, Method> methods;
    private int calls = 0;

    private Subject(Object called, Map<String, Method> methods) {
        this.called = called;
        this.methods = methods;
    }

    static Subject fresh() {
        return new Subject(new LeafOrder(), OF_CLASS);
    }

    static Subject model() {
        return new Subject(new PlainModel(), OF_MODEL);
    }

    /** As many LEAVES as the table has rows; table[j][i], i below j, is the UNLIKENESS of LEAVES i and j. */
    static Subject withRows(int[][] table) {
        Subject x = fresh();
        x.call("leaves", table.length);
        for (int j = 1; j < table.length; j++) {
            x.call("row", j);
            for (int i = 0; i < j; i++) {
                x.call("lay", j, i, table[j][i]);
            }
        }
        return x;
    }

    /** LEAVES that are all as unlike. */
    static Subject withAlike(int leaves, int v) {
        int[][] table = new int[leaves][leaves];
        for (int[] row : table) {
            Arrays.fill(row, v);
        }
        return withRows(table);
    }

    private static Map<String, Method> methodsOf(Class<?> type) {
        Map<String, Method> byName = new HashMap<>();
        for (Method method : LeafOrder.class.getMethods()) {
            if (method.getDeclaringClass() == LeafOrder.class) {
                byName.put(method.getName(), sameIn(type, method));
            }
        }
        return byName;
    }

    private static Method sameIn(Class<?> type, Method method) {
        try {
            return type.getDeclaredMethod(method.getName(), method.getParameterTypes());
        } catch (NoSuchMethodException none) {
            throw new IllegalStateException(none);
        }
    }

    /** Just outside low .. high, and as far outside as an int can be. */
    static int[] outside(int low, int high) {
        return new int[] {LOW, low - 1, high + 1, HIGH};
    }

    static String text(String name, int... a) {
        StringBuilder all = new StringBuilder(name).append('(');
        for (int k = 0; k < a.length; k++) {
            all.append(k == 0 ? "" : ", ").append(a[k]);
        }
        return all.append(')').toString();
    }

    /** How many calls it may still be asked. */
    int callsLeft() {
        return MOST_CALLS - calls;
    }

    /** What a call answers; for a boolean, 0 stands for false. */
    long call(String name, int... a) {
        // What a later call answers is free, so a test that needs one would test nothing.
        if (++calls > MOST_CALLS) {
            throw new IllegalStateException("the test makes more than " + MOST_CALLS + " calls: " + text(name, a));
        }
        Method method = methods.get(name);
        Class<?>[] types = method.getParameterTypes();
        Object[] values = new Object[types.length];
        for (int k = 0; k < types.length; k++) {
            values[k] = types[k] == boolean.class ? (Object) (a[k] != 0) : (Object) a[k];
        }
        try {
            return ((Number) method.invoke(called, values)).longValue();
        } catch (IllegalAccessException | InvocationTargetException thrown) {
            throw new IllegalStateException(text(name, a) + " threw", thrown);
        }
    }

    /** The row of all findings: the latest one, then how often each was answered. */
    int[] findings() {
        int[] all = new int[SIZE + 1];
        all[0] = (int) call("finding");
        for (int f = NOTHING; f <= SIZE; f++) {
            all[f] = (int) call("findings", f);
        }
        return all;
    }

    /** A row's places as they are; the same is laid again, so that only asked() changes. */
    int[] placesOf(int i) {
        int[] places = new int[10];
        for (int j = 0; j < 10; j++) {
            call("lay", i, j, 0);
            places[j] = (int) call("asked");
            call("lay", i, j, places[j]);
        }
        return places;
    }

    /** The leaves of a tree from the left, as digits. */
    String orderOf(int t) {
        StringBuilder order = new StringBuilder();
        for (int i = 0; i < 10 && call("order", t, i) >= 0; i++) {
            order.append(call("order", t, i));
        }
        return order.toString();
    }

    /** All that can be told of it without a change, but for the findings. */
    String picture() {
        StringBuilder all = new StringBuilder();
        all.append("digest ").append(call("digest")).append(" asked ").append(call("asked")).append(" count");
        for (int what = 0; what <= 4; what++) {
            all.append(' ').append(call("count", what));
        }
        all.append(" group");
        for (int leaf = 0; leaf < 10; leaf++) {
            all.append(' ').append(call("group", leaf));
        }
        all.append(" axis");
        for (int i = 0; i < 8; i++) {
            all.append(' ').append(call("axis", i));
        }
        for (int t = 0; t < 4; t++) {
            int n = leavesOf(t);
            all.append(" tree ").append(t).append(" turned");
            for (int join = n; join <= 2 * n - 2; join++) {
                all.append(' ').append(call("mark", t, join, 2));
            }
        }
        return all.toString();
    }

    private int leavesOf(int t) {
        int n = 0;
        while (n < 10 && call("order", t, n) >= 0) {
            n++;
        }
        return n;
    }
}
