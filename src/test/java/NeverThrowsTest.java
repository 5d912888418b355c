import java.lang.reflect.InvocationTargetException;
import java.lang.reflect.Method;
import java.lang.reflect.Modifier;
import java.util.ArrayList;
import java.util.Comparator;
import java.util.List;
import java.util.Random;

/**
 * LANGUAGE.md, rule 7: no call throws, for any arguments in any state. Answers are not looked at, so that objects may
 * have far more calls than the 512 whose answers are promised, and more tons than an int can hold.
 */
public final class NeverThrowsTest {
    private static final int[] NUMBERS = {Integer.MIN_VALUE, -1000000001, -10000, -9999, -100, -9, -2, -1, 0, 1, 2, 3, 4, 5, 7, 8,
        9, 10, 24, 28, 29, 31, 32, 33, 50, 96, 99, 100, 101, 110, 200, 201, 255, 256, 999, 1000, 9999, 10000, Integer.MAX_VALUE};
    private static final int SEEDS = 40;
    private static final int CALLS = 4000;
    private static final String SIGNS = "cwrm;,snSM0123456789";

    public static void main(String[] args) throws IllegalAccessException {
        int peopled = 0;
        for (int seed = 1; seed <= SEEDS; seed++) {
            HarbourMud y = seed % 3 == 0 ? Harbours.none() : seed % 3 == 1 ? Harbours.some() : Harbours.full();
            anyCalls(y, new Random(seed), CALLS);
            peopled += y.count(0) > 0 && y.count(1) > 0 && y.count(2) > 0 ? 1 : 0;
        }
        Checks.yes("most harbours have CELLS, WAYS and RIVERS then, not " + peopled, peopled > SEEDS * 3 / 4);
        HarbourMud x = flooded();
        Checks.yes("it has been flooded beyond what an int holds", x.count(4) < 0);
        anyCalls(x, new Random(SEEDS + 1), CALLS);
        Checks.end("NeverThrowsTest");
    }

    private static void anyCalls(HarbourMud x, Random random, int calls) throws IllegalAccessException {
        List<Method> face = face();
        for (int i = 0; i < calls; i++) {
            Method method = face.get(random.nextInt(face.size()));
            // an early IMAGE that comes back too often would keep the harbour empty
            if (!method.getName().equals("restore") || random.nextInt(50) == 0) {
                call(x, method, random);
            }
            if (random.nextInt(8) == 0) {
                x.feed(1, SIGNS.charAt(random.nextInt(SIGNS.length())));
            }
        }
    }

    /** In an order of their own: reflection promises none. */
    private static List<Method> face() {
        List<Method> face = new ArrayList<>();
        for (Method m : HarbourMud.class.getDeclaredMethods()) {
            if (Modifier.isPublic(m.getModifiers())) {
                face.add(m);
            }
        }
        face.sort(Comparator.comparing(Method::getName));
        Checks.due("calls of the face", face.size(), 29);
        return face;
    }

    private static void call(HarbourMud x, Method method, Random random) throws IllegalAccessException {
        Class<?>[] types = method.getParameterTypes();
        Object[] arguments = new Object[types.length];
        for (int i = 0; i < types.length; i++) {
            arguments[i] = types[i] == boolean.class ? (Object) random.nextBoolean()
                : types[i] == long.class ? (Object) random.nextLong() : (Object) number(random);
        }
        try {
            method.invoke(x, arguments);
            Checks.yes("it is answered", true);
        } catch (InvocationTargetException thrown) {
            Checks.yes(method.getName() + List.of(arguments) + " does not throw " + thrown.getCause(), false);
        }
    }

    private static int number(Random random) {
        int kind = random.nextInt(8);
        return kind == 0 ? random.nextInt() : kind < 4 ? random.nextInt(9) : NUMBERS[random.nextInt(NUMBERS.length)];
    }

    /** Eight RIVERS of 999 tons for so long that the tons in all CELLS are more than an int holds. */
    private static HarbourMud flooded() {
        HarbourMud x = new HarbourMud();
        for (int cell = 0; cell < 8; cell++) {
            x.cell(99, 99);
            x.way(cell, (cell + 1) % 8, 10 * (cell & 1), 50);
            x.river(0, 1, 999);
        }
        x.dredger(0, 999);
        x.dredger(1, 7);
        for (int i = 0; i < 10000 && x.count(4) >= 0; i++) {
            x.go(200);
        }
        return x;
    }
}
