import java.lang.reflect.Method;
import java.util.Arrays;
import java.util.Comparator;
import java.util.Random;

/** No call may throw, whatever the arguments and the state; and one that answers a finding changes status() alone. */
public final class ExtremesTest {
    private static final long[] NUMBERS = {
        Long.MIN_VALUE, Integer.MIN_VALUE, Integer.MIN_VALUE + 1, -65536, -256, -2, -1, 0, 1, 2, 3, 4, 5, 6, 7, 8, 9, 10, 11,
        15, 16, 17, 23, 24, 25, 31, 32, 33, 39, 40, 41, 50, 51, 63, 64, 65, 66, 99, 100, 101, 255, 256, 999, 1000, 9999, 10000,
        65535, 65536, 1 << 24, 1 << 30, Integer.MAX_VALUE - 1, Integer.MAX_VALUE, Long.MAX_VALUE,
    };
    private static final String[] TOWNS = {
        "lender;lender;trader;keeper;child;person;pass 5;thing 0 90;thing 1 80 rot 1",
        "thing 0 50;thing 1 40;thing 2 70 rot 2;thing 0 9999;hoarder;part 99",
        "thing", "person;", ";", "pass 9", "thing 0 99999",
    };

    private static int wrong = 0;

    public static void main(String[] args) throws ReflectiveOperationException {
        Method[] face = SpoonWords.class.getDeclaredMethods();
        face = Arrays.stream(face).filter(m -> java.lang.reflect.Modifier.isPublic(m.getModifiers())).toArray(Method[]::new);
        Arrays.sort(face, Comparator.comparing(Method::getName));
        for (int run = 0; run < 2000 && wrong < 10; run++) {
            oneRun(face, new Random(run));
        }
        System.out.println(face.length + " methods with extreme arguments, " + wrong + " wrong");
        if (wrong != 0 || face.length != 40) {
            System.exit(1);
        }
    }

    private static void oneRun(Method[] face, Random random) throws ReflectiveOperationException {
        SpoonWords x = new SpoonWords();
        for (int i = 0; i < 200; i++) {
            if (random.nextInt(20) == 0) {
                tellTown(x, TOWNS[random.nextInt(TOWNS.length)]);
            }
            Method method = face[random.nextInt(face.length)];
            Object[] arguments = new Object[method.getParameterCount()];
            boolean narrow = random.nextBoolean();
            for (int k = 0; k < arguments.length; k++) {
                long v = narrow ? random.nextInt(6) : NUMBERS[random.nextInt(NUMBERS.length)];
                if (method.getParameterTypes()[k] == long.class) {
                    arguments[k] = v;
                } else {
                    arguments[k] = (int) v;
                }
            }
            oneCall(x, method, arguments);
        }
    }

    private static void oneCall(SpoonWords x, Method method, Object[] arguments) throws ReflectiveOperationException {
        int findings = x.status(-1);
        String before = picture(x);
        try {
            method.invoke(x, arguments);
        } catch (java.lang.reflect.InvocationTargetException e) {
            wrong++;
            System.out.println(method.getName() + Arrays.toString(arguments) + " threw " + e.getCause());
        }
        if (x.status(-1) != findings && !picture(x).equals(before)) {
            wrong++;
            System.out.println(method.getName() + Arrays.toString(arguments) + " told a finding and changed something");
        }
    }

    /** All that can be asked without a change, and without a finding. */
    private static String picture(SpoonWords x) {
        StringBuilder all = new StringBuilder();
        for (int what = 0; what <= 6; what++) {
            all.append(x.count(what)).append(' ');
        }
        for (int i = 0; i < x.count(0); i++) {
            all.append(x.personOf(i, 0)).append(' ').append(x.personOf(i, 1)).append(';');
        }
        for (int i = 0; i < x.count(1); i++) {
            for (int what = 0; what <= 5; what++) {
                all.append(x.thingOf(i, what)).append(' ');
            }
            for (int k = 0; k < x.thingOf(i, 4); k++) {
                all.append(x.chain(i, k)).append(',');
            }
        }
        for (int i = 0; i < x.count(2); i++) {
            for (int what = 0; what <= 6; what++) {
                all.append(x.promiseOf(i, what)).append(' ');
            }
        }
        return all.toString();
    }

    private static void tellTown(SpoonWords x, String text) {
        x.wipe();
        for (char c : text.toCharArray()) {
            x.feed(c, 1);
        }
        x.town();
    }
}
