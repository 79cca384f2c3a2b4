import java.lang.reflect.InvocationTargetException;
import java.lang.reflect.Method;
import java.lang.reflect.Modifier;
import java.util.ArrayList;
import java.util.HashMap;
import java.util.List;
import java.util.Map;
import java.util.NoSuchElementException;

/** A house and its Model, asked alike by a written-out number row. */
class Both {
    static final int MOST_CALLS = 512;
    private static final int THROWN = -77777;
    private static final Map<String, Method> METHODS = new HashMap<>();

    private long seed;
    final OperaHouse house = new OperaHouse();
    final Model model = new Model();
    int calls;
    boolean good = true;
    private final List<String> trace = new ArrayList<>();

    Both(long seed) {
        this.seed = seed;
    }

    final int below(int n) {
        seed = seed * 6364136223846793005L + 1442695040888963407L;
        return (int) ((seed >>> 33) % n);
    }

    final int between(int low, int high) {
        return low + below(high - low + 1);
    }

    final boolean one(int in) {
        return below(in) == 0;
    }

    /** One of some numbers. */
    final int some(int... numbers) {
        return numbers[below(numbers.length)];
    }

    final boolean goesOn() {
        return good && calls < MOST_CALLS;
    }

    /** One call to both; the answer of the class. */
    final int ask(String name, int... a) {
        if (!goesOn()) {
            return -1;
        }
        calls++;
        int due = answer(model, name, a);
        int got = answer(house, name, a);
        StringBuilder line = new StringBuilder(name).append('(');
        for (int k = 0; k < a.length; k++) {
            line.append(k == 0 ? "" : ", ").append(a[k]);
        }
        trace.add(line.append(") ").append(got).toString());
        if (due != got) {
            good = false;
            for (String x : trace) {
                System.out.println(x);
            }
            System.out.println("  answered " + got + ", the model's is " + due);
        }
        return got;
    }

    /** The answer of one of both: a truth is 1 or 0, what is thrown by the document's word is THROWN. */
    private static int answer(Object asked, String name, int[] a) {
        Method method = methodOf(asked.getClass(), name);
        Object[] values = new Object[a.length];
        for (int k = 0; k < a.length; k++) {
            if (method.getParameterTypes()[k] == boolean.class) {
                values[k] = a[k] != 0;
            } else {
                values[k] = a[k];
            }
        }
        try {
            Object given = method.invoke(asked, values);
            return given instanceof Boolean ? (Boolean) given ? 1 : 0 : (Integer) given;
        } catch (InvocationTargetException e) {
            if (e.getCause() instanceof NoSuchElementException) {
                return THROWN;
            }
            e.getCause().printStackTrace(System.out);
            return THROWN + 1;
        } catch (IllegalAccessException e) {
            throw new IllegalStateException(e);
        }
    }

    private static Method methodOf(Class<?> asked, String name) {
        String key = asked.getName() + "." + name;
        if (!METHODS.containsKey(key)) {
            for (Method m : asked.getDeclaredMethods()) {
                if (m.getName().equals(name) && !Modifier.isPrivate(m.getModifiers())) {
                    METHODS.put(key, m);
                }
            }
        }
        return METHODS.get(key);
    }

    final void write(int... bytes) {
        int[] padded = new int[(bytes.length + 19) / 20 * 20];
        System.arraycopy(bytes, 0, padded, 0, bytes.length);
        int start = model.tape.size();
        for (int at = 0; at < padded.length; at += 20) {
            int[] n = new int[5];
            for (int k = 0; k < 20; k++) {
                n[k / 4] = n[k / 4] << 8 | padded[at + k] & 255;
            }
            ask("feed", n);
        }
        ask("end", start + bytes.length);
    }

    final void write(String text) {
        int[] bytes = new int[text.length()];
        for (int k = 0; k < bytes.length; k++) {
            bytes[k] = text.charAt(k);
        }
        write(bytes);
    }
}
