import java.lang.reflect.InvocationTargetException;
import java.lang.reflect.Method;
import java.lang.reflect.Modifier;
import java.util.NoSuchElementException;
import java.util.Random;

/** Any arguments in any state: nothing is thrown but by route; and the face is the document's. */
public final class ExtremesTest {
    private static final Check CHECK = new Check();
    private static final int[] INTS = {Integer.MIN_VALUE, -33, -32, -2, -1, 0, 1, 2, 3, 7, 8, 9, 10, 11, 16, 31, 32, 255, 256,
        999, 10000, Integer.MAX_VALUE};
    private static final String[] RINGS = {"", "circle 8;", "key k at 3;", "circle 8;key k at 999;node a plain at 7;",
        "circle 256;list 4;node a plain at 0;node b short at 255;node c shy at 7;node d blind at 8;node e plain at 9;"
            + "node f plain at 100;node g plain at 128;node h plain at 200;key k at 1;key l at 2;key m at 900;key n at 4;"
            + "key o at 5;key p at 6;key q at 7;key r at 8;key s at 9;key t at 10;lies told*which*99+circle;"};

    public static void main(String[] args) throws IllegalAccessException {
        int methods = 0;
        for (Method method : NameRing.class.getDeclaredMethods()) {
            methods += Modifier.isPublic(method.getModifiers()) ? 1 : 0;
        }
        CHECK.due("methods of the face", methods, 47);
        CHECK.due("fields of the face", NameRing.class.getFields().length, 1);
        for (int seed = 0; seed < 600; seed++) {
            run(new Random(seed));
        }
        CHECK.finish("ExtremesTest");
    }

    private static void run(Random random) throws IllegalAccessException {
        Method[] methods = NameRing.class.getMethods();
        NameRing ring = new NameRing();
        Check.tellRing(ring, RINGS[random.nextInt(RINGS.length)]);
        for (int call = 0; call < 400; call++) {
            Method method = methods[random.nextInt(methods.length)];
            boolean rare = method.getName().equals("ring") || method.getName().equals("fail");
            if (method.getDeclaringClass() == NameRing.class && !(rare && random.nextInt(10) > 0)) {
                call(ring, method, random);
            }
        }
    }

    private static void call(NameRing ring, Method method, Random random) throws IllegalAccessException {
        Object[] given = new Object[method.getParameterCount()];
        for (int i = 0; i < given.length; i++) {
            Class<?> type = method.getParameterTypes()[i];
            int some = random.nextInt(3) > 0 ? random.nextInt(9) : INTS[random.nextInt(INTS.length)];
            given[i] = type == long.class ? (Object) random.nextLong() : type == boolean.class ? (Object) random.nextBoolean() : (Object) some;
        }
        try {
            method.invoke(ring, given);
        } catch (InvocationTargetException e) {
            boolean due = method.getName().equals("route") && e.getCause().getClass() == NoSuchElementException.class;
            CHECK.due(method.getName() + java.util.Arrays.toString(given) + " throws " + e.getCause(), due, true);
        }
    }
}
