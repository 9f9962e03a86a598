import java.lang.reflect.InvocationTargetException;
import java.lang.reflect.Method;
import java.util.ArrayList;
import java.util.Comparator;
import java.util.List;

/**
 * Every call with all combinations of a list of numbers at and beyond the limits, in several states: it never
 * throws, and answers as the model does. The more numbers a call takes, the shorter the list, so that it ends
 * soon. Objects are made anew before they have had 512 calls.
 */
public final class ExtremesTest {
    private static final int MOST = Integer.MAX_VALUE, LEAST = Integer.MIN_VALUE;
    private static final int CALLS = 512;
    private static final int[] MANY = {
        LEAST, LEAST + 1, -1000001, -1000000, -41, -2, -1, 0, 1, 2, 3, 4, 5, 7, 8, 9, 10, 11, 15, 16, 20, 21, 39, 40, 41,
        60, 61, 119, 120, 255, 256, 999999, 1000000, MOST - 1, MOST,
    };
    private static final int[] SOME = {LEAST, -1, 0, 1, 2, 3, 7, 8, 9, 10, 40, 41, 60, 61, 999999, 1000000, MOST};
    private static final int[] FEW = {LEAST, -1, 0, 1, 2, 5, 8, 9, 10, 11, MOST};
    private static final int[] FEWEST = {LEAST, -1, 0, 1, 7, 8, 40, 41, MOST};

    /** A state: what is told, the rows that are there, the lifts made. */
    private static final String[] TEXTS = {
        "", "y1,0,0;k1,1;", "y3,2,4;k9,2;k12,3;k20,5;k8,1;k15,3;o0,1;o1,2;c1,3;c0,4;t14;f20;p10;n9;",
        "y9,9,20;k30,20;k29,9;k1,10;k2,1;k3,1;k4,9;k5,9;k30,9;o0,1;o1,2;o2,0;c3,4;c4,5;c7,3;g40;p15;",
    };

    private NineDown x;
    private Model m;
    private int used;
    private final int state;

    private ExtremesTest(int state) {
        this.state = state;
        begin();
    }

    public static void main(String[] args) {
        List<Method> face = new ArrayList<>();
        for (Method one : NineDown.class.getMethods()) {
            if (one.getDeclaringClass() == NineDown.class) {
                face.add(one);
            }
        }
        face.sort(Comparator.comparing(Method::getName));
        for (Method one : face) {
            for (int state = 0; state < TEXTS.length; state++) {
                int of = state;
                Due.test("Extremes: " + one.getName() + ", state " + state, () -> new ExtremesTest(of).all(one));
            }
        }
        Due.end();
    }

    private void begin() {
        x = new NineDown();
        m = new Model();
        used = 0;
        for (int i = 0; i < TEXTS[state].length(); i++) {
            same("feed", TEXTS[state].charAt(i));
        }
        if (state > 0) {
            same("yard");
        }
        for (int row = 0; row < 2 * state; row++) {
            same("row", row, row % 3, row == 0 ? 0 : 8 * row);
            same("set", row, 1, 1);
            same("set", row, 3, 31);
        }
        same("lift", 0, 3);
        same("lift", 1, 3);
        same("image", 1);
    }

    private void all(Method one) {
        int n = one.getParameterCount();
        int[] from = n <= 2 ? MANY : n == 3 ? SOME : n == 4 ? FEW : FEWEST;
        int[] at = new int[n];
        boolean more = true;
        while (more) {
            int[] numbers = new int[n];
            for (int i = 0; i < n; i++) {
                numbers[i] = from[at[i]];
            }
            same(one.getName(), numbers);
            same("status");
            more = next(at, from.length);
            if (used > CALLS - 2) {
                begin();
            }
        }
    }

    /** The next row of places, like the figures of a number; false: that was the last. */
    private static boolean next(int[] at, int length) {
        for (int i = 0; i < at.length; i++) {
            at[i]++;
            if (at[i] < length) {
                return true;
            }
            at[i] = 0;
        }
        return false;
    }

    private void same(String name, int... numbers) {
        used++;
        long want = answer(m, name, numbers);
        long got = answer(x, name, numbers);
        if (got != want || used == 1) {
            Due.due("state " + state + ": " + name + java.util.Arrays.toString(numbers), got, want);
        }
    }

    private static long answer(Object of, String name, int[] numbers) {
        Class<?>[] types = new Class<?>[numbers.length];
        Object[] all = new Object[numbers.length];
        for (int i = 0; i < numbers.length; i++) {
            types[i] = int.class;
            all[i] = numbers[i];
        }
        try {
            return ((Number) of.getClass().getDeclaredMethod(name, types).invoke(of, all)).longValue();
        } catch (InvocationTargetException thrown) {
            throw new IllegalStateException(name + java.util.Arrays.toString(numbers) + " threw " + thrown.getCause());
        } catch (ReflectiveOperationException thrown) {
            throw new IllegalStateException(thrown);
        }
    }
}
