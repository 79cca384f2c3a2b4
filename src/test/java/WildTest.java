import java.lang.reflect.InvocationTargetException;
import java.lang.reflect.Method;
import java.util.NoSuchElementException;

/** Every call with numbers far out of the way, on an empty house and on a full one: only told() throws. */
public final class WildTest {
    private static final int[] WILD = {0, 1, -1, 2, 3, 7, 8, 9, 19, 20, 24, 29, 30, 59, 60, 61, 63, 64, 255, 300,
        480, 100000, 1 << 26, Integer.MAX_VALUE, Integer.MIN_VALUE, Integer.MAX_VALUE - 20, Integer.MIN_VALUE + 1};

    public static void main(String[] args) throws Exception {
        for (Method m : OperaHouse.class.getMethods()) {
            if (m.getDeclaringClass() == OperaHouse.class) {
                wild(m, new OperaHouse());
                wild(m, full());
            }
        }
        Check.end();
    }

    private static OperaHouse full() {
        OperaHouse x = new OperaHouse();
        for (int o = 0; o < 9; o++) {
            int[] roles = new int[32];
            for (int r = 0; r < 8; r++) {
                roles[4 * r + 1] = 30;
            }
            Check.opera(x, 2 + o % 5, o % 4, true, 1 + o, roles);
        }
        for (int s = 0; s < 20; s++) {
            x.singer(63, 63, s % 10);
        }
        for (int c = 0; c < 54; c++) {
            x.call(c % 28, c % 19, c % 4, c % 9, c % 4);
        }
        for (int k = 0; k < 399; k++) {
            x.cast(k % 54, k % 8, k * 7 % 20, k % 5 == 0);
        }
        for (int k = 0; k < 59; k++) {
            x.ill(k % 20, k % 30, 29);
        }
        for (int k = 0; k < 199; k++) {
            x.learn(k % 20, k % 9, k % 8, 99);
        }
        return x;
    }

    private static void wild(Method m, OperaHouse x) throws Exception {
        Class<?>[] types = m.getParameterTypes();
        Object[] values = new Object[types.length];
        int[] at = new int[types.length];
        for (int round = 0; round < 400; round++) {
            for (int k = 0; k < types.length; k++) {
                at[k] = (round * (2 * k + 1) + round / 27 * (k + 3)) % WILD.length;
                if (types[k] == boolean.class) {
                    values[k] = at[k] % 2 == 0;
                } else {
                    values[k] = WILD[at[k]];
                }
            }
            try {
                m.invoke(x, values);
            } catch (InvocationTargetException e) {
                boolean fair = m.getName().equals("told") && e.getCause() instanceof NoSuchElementException;
                Check.yes(m.getName() + " throws " + e.getCause(), fair);
            }
        }
    }
}
