import java.lang.reflect.InvocationTargetException;
import java.lang.reflect.Method;
import java.lang.reflect.Modifier;
import java.util.Arrays;

/** No call may throw, whatever its arguments are: each method by all rows of odd ones, on several lands. */
public final class AnyArgumentsTest {
    private static final Integer[] INTS = {Integer.MIN_VALUE, -1, 0, 1, 3, 10, 33, 60, 1000, 20001, Integer.MAX_VALUE};
    private static final Long[] LONGS = {Long.MIN_VALUE, -1L, 0L, 9L, 1L << 32, Long.MAX_VALUE};
    private static final Boolean[] BOOLEANS = {true, false};
    /** An object may be used for 512 calls; making a land takes fewer than 50. */
    private static final int CALLS = 450;
    private static int wrong;

    private static HopBeams land(int kind) {
        HopBeams x = new HopBeams();
        int cells = kind == 0 ? 0 : kind == 1 ? 3 : 10;
        for (int c = 0; c < cells; c++) {
            x.cell(10 + c, 1 + 100 * c, 1 + c % 9, c % 3);
        }
        for (int place = 0; place < kind + 1; place++) {
            x.row(place, place, 20 * place);
            x.write(place, 0, 3);
        }
        x.needs(1);
        x.asks(1);
        x.rule(kind % 2);
        x.fewest();
        x.go(kind + 1);
        x.swap(0, 2);
        return x;
    }

    private static Object[] choices(Class<?> type) {
        return type == int.class ? INTS : type == long.class ? LONGS : BOOLEANS;
    }

    private static void call(HopBeams x, Method m, Object[] arguments) throws IllegalAccessException {
        try {
            m.invoke(x, arguments);
        } catch (InvocationTargetException e) {
            wrong++;
            System.out.println(m.getName() + Arrays.toString(arguments) + " threw " + e.getCause());
        }
    }

    private static void allRows(Method m, int kind) throws IllegalAccessException {
        Class<?>[] types = m.getParameterTypes();
        int rows = 1;
        for (Class<?> type : types) {
            rows *= choices(type).length;
        }
        HopBeams x = land(kind);
        for (int row = 0; row < rows; row++) {
            Object[] arguments = new Object[types.length];
            int rest = row;
            for (int i = 0; i < types.length; i++) {
                Object[] all = choices(types[i]);
                arguments[i] = all[rest % all.length];
                rest /= all.length;
            }
            if (row % CALLS == CALLS - 1) {
                x = land(kind);
            }
            call(x, m, arguments);
        }
    }

    public static void main(String[] args) throws IllegalAccessException {
        int methods = 0;
        for (Method m : HopBeams.class.getDeclaredMethods()) {
            if (Modifier.isPublic(m.getModifiers())) {
                methods++;
                for (int kind = 0; kind < 4; kind++) {
                    allRows(m, kind);
                }
            }
        }
        if (methods != 27) {
            wrong++;
            System.out.println("the face has 27 methods, not " + methods);
        }
        System.out.println(wrong == 0 ? "no call throws" : wrong + " things are wrong");
        if (wrong != 0) {
            System.exit(1);
        }
    }
}
