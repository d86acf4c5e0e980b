import java.lang.reflect.InvocationTargetException;
import java.lang.reflect.Method;
import java.lang.reflect.Modifier;
import java.util.ArrayList;
import java.util.Comparator;
import java.util.List;
import java.util.Random;

/** Calls with wild arguments: none throws, and the same calls on two objects answer alike. */
public final class WildTest {
    private static final int[] ENDS = {Integer.MIN_VALUE, Integer.MIN_VALUE + 1, -1000, -2, -1, 0, 1, 2, 3, 4, 5, 7, 9,
        10, 11, 17, 20, 26, 27, 60, 100, 150, 200, 400, 999, 1000, 1001, 1010, 1440, 5000, 9000, 10_000,
        Integer.MAX_VALUE - 1, Integer.MAX_VALUE};

    private static List<Method> methods() {
        List<Method> methods = new ArrayList<>();
        for (Method method : LinenPool.class.getDeclaredMethods()) {
            if (Modifier.isPublic(method.getModifiers())) {
                methods.add(method);
            }
        }
        methods.sort(Comparator.comparing(Method::getName));
        return methods;
    }

    private static int wild(Random random) {
        switch (random.nextInt(6)) {
            case 0: return ENDS[random.nextInt(ENDS.length)];
            case 1: return random.nextInt();
            case 2: return 10 + random.nextInt(8);
            default: return random.nextInt(6);
        }
    }

    private static Object answer(LinenPool pool, Method method, Object[] with) throws IllegalAccessException {
        try {
            return method.invoke(pool, with);
        } catch (InvocationTargetException thrown) {
            return thrown.getCause().toString();
        }
    }

    public static void main(String[] args) throws IllegalAccessException {
        Check check = new Check();
        List<Method> methods = methods();
        for (int run = 0; run < 150; run++) {
            Random random = new Random(run);
            LinenPool one = new LinenPool();
            LinenPool other = new LinenPool();
            for (int call = 0; call < 3000; call++) {
                Method method = methods.get(random.nextInt(methods.size()));
                Object[] with = new Object[method.getParameterCount()];
                for (int i = 0; i < with.length; i++) {
                    with[i] = wild(random);
                }
                Object answer = answer(one, method, with);
                String name = "run " + run + ": " + method.getName() + java.util.Arrays.toString(with);
                check.due(name + " throws " + answer, answer instanceof String, false);
                check.due(name, answer.toString(), answer(other, method, with).toString());
            }
        }
        check.end();
    }
}
