import java.lang.reflect.Constructor;
import java.lang.reflect.InvocationTargetException;
import java.lang.reflect.Method;
import java.lang.reflect.Modifier;
import java.util.ArrayList;
import java.util.Arrays;
import java.util.Comparator;
import java.util.List;

/**
 * Long runs of calls, drawn by a fixed row of numbers: each call answers or throws what it declares, the farm stays
 * sound, and a second farm that gets only the calls that threw nothing answers the same to the end.
 */
public final class RandomRunsTest {
    private static final int RUNS = 400;
    private static final int CALLS = 380;
    private static final char[] LETTERS = "aehcbtgswfxrmodkp?".toCharArray();

    private static long drawn = 20261119L;

    private RandomRunsTest() {
    }

    public static void main(String[] args) throws ReflectiveOperationException {
        Method[] methods = faceMethods();
        for (int run = 0; run < RUNS; run++) {
            runOnce(run, methods);
        }
        Check.finish("RandomRunsTest");
    }

    private static Method[] faceMethods() {
        List<Method> methods = new ArrayList<Method>();
        for (Method method : ThresholdRow.class.getDeclaredMethods()) {
            if (Modifier.isPublic(method.getModifiers())) {
                methods.add(method);
            }
        }
        methods.sort(Comparator.comparing(Method::getName));
        return methods.toArray(new Method[0]);
    }

    private static void runOnce(int run, Method[] methods) throws ReflectiveOperationException {
        Constructor<ThresholdRow> maker = ThresholdRow.class.getConstructor();
        ThresholdRow farm = maker.newInstance();
        ThresholdRow twin = maker.newInstance();
        boolean furnished = run % 4 != 0;
        if (furnished) {
            furnish(farm);
            furnish(twin);
        }
        for (int call = 0; call < CALLS; call++) {
            Method method = methods[draw(methods.length)];
            Object[] given = arguments(method, draw(25) == 0);
            String what = "run " + run + ", call " + call + ": " + method.getName() + Arrays.toString(given);
            Object answer;
            try {
                answer = method.invoke(farm, given);
            } catch (InvocationTargetException thrown) {
                Class<?> type = thrown.getCause().getClass();
                Check.thrownByFarm(what, thrown.getCause());
                Check.same(what + " may throw " + type, Arrays.asList(method.getExceptionTypes()).contains(type), true);
                continue;
            }
            Check.same(what, answer.toString(), method.invoke(twin, given).toString());
            if (method.getName().equals("isSound")) {
                Check.same(what, (Boolean) answer, true);
            }
        }
        Check.same("run " + run + " ends soundly", farm.isSound(), true);
        Check.same("run " + run, Snapshot.of(farm), Snapshot.of(twin));
    }

    private static void furnish(ThresholdRow farm) {
        for (int hand = 0; hand < 5; hand++) {
            farm.addHand(5 + hand, hand - 2);
            farm.stand(hand);
        }
        for (int lot = 0; lot < 4; lot++) {
            farm.addLot(lot % 2, 9999, 3 * lot);
        }
        farm.hireDrum(99, 1);
        farm.testBoiler();
    }

    private static Object[] arguments(Method method, boolean wild) {
        Class<?>[] types = method.getParameterTypes();
        Object[] given = new Object[types.length];
        for (int i = 0; i < types.length; i++) {
            if (types[i] == char.class) {
                given[i] = wild ? (char) draw(65536) : LETTERS[draw(LETTERS.length)];
            } else if (wild) {
                given[i] = wildNumber();
            } else {
                given[i] = number(method.getName(), i);
            }
        }
        return given;
    }

    private static int wildNumber() {
        int[] wild = {Integer.MIN_VALUE, Integer.MAX_VALUE, -1, 0, 10, 100, 10000, Integer.MIN_VALUE + 1};
        return wild[draw(wild.length)];
    }

    private static int number(String method, int place) {
        if (method.equals("pass") || method.equals("hireDrum")) {
            return 1 + draw(4);
        }
        if (method.equals("setZ")) {
            return 1 + draw(2147483646);
        }
        if (method.equals("addLot") && place == 1) {
            return 1 + draw(9999);
        }
        if (method.equals("setBushel") && place == 1) {
            return 55 + draw(19);
        }
        if (method.equals("grind") && place == 1 || method.equals("sellSeed") && place == 1) {
            return draw(300);
        }
        if (method.equals("bake")) {
            return 5 + draw(200);
        }
        if (method.equals("thresh") || method.equals("practise") || method.equals("measure") && place == 4) {
            return place == 0 && method.equals("thresh") ? draw(5) : draw(30);
        }
        return draw(8);
    }

    private static int draw(int bound) {
        drawn = drawn * 6364136223846793005L + 1442695040888963407L;
        return (int) ((drawn >>> 33) % bound);
    }
}
