import java.lang.reflect.InvocationTargetException;
import java.lang.reflect.Method;
import java.util.ArrayList;
import java.util.Comparator;
import java.util.List;

/** Rules 7 and 13 of ../shared/LANGUAGE.md: no call throws, whatever it is given; the same calls give the same answers. */
public final class AnyCallTest {
    private static final int RUNS = 1500;
    private static final int CALLS = 300;
    private static final int[] FAR = {Integer.MIN_VALUE, Integer.MIN_VALUE + 1, -65536, -250, -33, -32, -31, -9, -2, 4, 5, 10,
        12, 15, 16, 20, 31, 32, 33, 40, 41, 60, 61, 99, 100, 250, 255, 256, 999, 1000, 65536, 1 << 30, Integer.MAX_VALUE - 1,
        Integer.MAX_VALUE};
    private static final Due due = new Due();
    private static long drawn = 1;

    public static void main(String[] args) throws IllegalAccessException {
        List<Method> calls = new ArrayList<>();
        for (Method method : PraiseDuels.class.getMethods()) {
            if (method.getDeclaringClass() == PraiseDuels.class) {
                calls.add(method);
            }
        }
        calls.sort(Comparator.comparing(Method::getName));
        for (int run = 0; run < RUNS; run++) {
            PraiseDuels x = run % 4 == 0 ? new PraiseDuels() : Due.meadow(MeadowTest.THREE);
            PraiseDuels y = run % 4 == 0 ? new PraiseDuels() : Due.meadow(MeadowTest.THREE);
            for (int i = 0; i < CALLS; i++) {
                both(run, x, y, calls.get(draw(calls.size())));
            }
        }
        due.end("AnyCallTest");
    }

    private static int draw(int n) {
        drawn = drawn * 6364136223846793005L + 1442695040888963407L;
        return (int) ((drawn >>> 33) % n);
    }

    private static void both(int run, PraiseDuels x, PraiseDuels y, Method call) throws IllegalAccessException {
        Object[] given = new Object[call.getParameterCount()];
        StringBuilder told = new StringBuilder("run " + run + ": " + call.getName());
        for (int i = 0; i < given.length; i++) {
            int v = draw(4) == 0 ? FAR[draw(FAR.length)] : draw(6) - 1;
            given[i] = v;
            told.append(' ').append(v);
        }
        try {
            due.is(told.toString(), (Integer) call.invoke(x, given), (Integer) call.invoke(y, given));
        } catch (InvocationTargetException thrown) {
            due.is(told + " threw " + thrown.getCause(), 1, 0);
        }
    }
}
