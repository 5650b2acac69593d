import java.lang.reflect.InvocationTargetException;
import java.lang.reflect.Method;
import java.util.ArrayList;
import java.util.Comparator;
import java.util.List;
import java.util.Random;

// Every method with every kind of number in every order: no call throws, and the same calls are answered alike by two objects.
public final class NeverThrowsTest {
    private static final int[] EDGES = {Integer.MIN_VALUE, Integer.MIN_VALUE + 1, -2147483, -65536, -10000, -9999, -501, -2, -1, 0, 1, 2,
        3, 4, 5, 6, 7, 8, 9, 12, 13, 60, 99, 100, 101, 200, 300, 301, 399, 400, 401, 500, 599, 600, 601, 899, 900, 901, 999, 1000, 2000,
        2001, 9999, 10000, 19999, 65535, 65536, 99999, 100000, 999999999, 1000000000, 1000000001, Integer.MAX_VALUE - 1, Integer.MAX_VALUE};
    private static final String[] TEXTS = {"wide want - seen;swirl 9;late 1;gives 30", "pull 12;heat heat * 7 - minute / 0", "wide 7/0",
        "pull 9 if not [seen > want or left < 300]", "wide 5", "pull 30", "wide ((((", "heat 1;;", "swirl 100"};

    public static void main(String[] args) throws IllegalAccessException {
        List<Method> methods = new ArrayList<>();
        for (Method method : PulledCrystal.class.getDeclaredMethods()) {
            if (java.lang.reflect.Modifier.isPublic(method.getModifiers())) {
                methods.add(method);
            }
        }
        methods.sort(Comparator.comparing(Method::getName));
        Due.is("all methods of the face", methods.size(), 36);
        for (int run = 0; run < 300; run++) {
            Due.is("run " + run, calls(methods, new Random(run)), true);
        }
        Due.done("NeverThrowsTest");
    }

    private static boolean calls(List<Method> methods, Random random) throws IllegalAccessException {
        PulledCrystal x = new PulledCrystal();
        PulledCrystal z = new PulledCrystal();
        if (random.nextInt(4) > 0) {
            stock(x);
            stock(z);
        }
        for (int n = 0; n < 440; n++) {
            Method method = methods.get(random.nextInt(methods.size()));
            Object[] of = new Object[method.getParameterCount()];
            for (int k = 0; k < of.length; k++) {
                of[k] = number(random);
            }
            try {
                Object told = method.invoke(x, of);
                if (!told.equals(method.invoke(z, of))) {
                    System.out.println(method + " " + List.of(of) + " is not answered alike");
                    return false;
                }
            } catch (InvocationTargetException thrown) {
                System.out.println(method + " " + List.of(of) + " throws " + thrown.getCause());
                return false;
            }
        }
        return true;
    }

    private static int number(Random random) {
        int kind = random.nextInt(8);
        return kind == 0 ? random.nextInt() : kind < 5 ? random.nextInt(10) : EDGES[random.nextInt(EDGES.length)];
    }

    private static void stock(PulledCrystal x) {
        for (String text : TEXTS) {
            Due.tape(x, text);
            if (text.charAt(0) == 'w' || text.charAt(0) == 's') {
                x.furnace();
            } else {
                x.minder();
            }
        }
        for (int stuff = 0; stuff < 6; stuff++) {
            x.stuff(stuff, 0, 999999999 >> 5 * stuff);
        }
        x.begin(0, 1, 60000, 400, 20, 300, 5, 900, 7);
        x.grow(7);
    }
}
