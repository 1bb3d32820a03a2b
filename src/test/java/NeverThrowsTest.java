import java.lang.reflect.InvocationTargetException;
import java.lang.reflect.Method;
import java.lang.reflect.Modifier;
import java.util.ArrayList;
import java.util.Arrays;
import java.util.Comparator;
import java.util.List;
import java.util.Random;

/** Calls with every kind of argument on many cloths: none may throw, and all cells stay within 0 .. 99. */
public final class NeverThrowsTest {
    private static final int[] EDGES = {Integer.MIN_VALUE, Integer.MIN_VALUE + 1, -1000, -100, -3, -2, -1, 0, 1, 2, 3, 4,
        5, 6, 7, 11, 12, 19, 20, 21, 23, 24, 25, 98, 99, 100, 400, 401, 333473679, 333473680, Integer.MAX_VALUE - 1,
        Integer.MAX_VALUE};
    private static final String[] TEXTS = {"", "column 1;", "column 1;row 9;", "column 1;column 2;row 9 9;row 99 99;",
        "column 1;column 20;column 20;column 20;column 20;column 20;row 99 99 99 99 99 99;row 1 1 1 1 1 1;row 0;"
            + "row 50 50 50 50 50 50;put 1 0 5;shift 0 1 1 50;seen 1 0 0 99;",
        "column 1;column 2;column 2;column 2;column 2;column 2;row 99 98 97 96 95 94;row 9 9 9 9 9 9;row 8 7 6 5 4 3;"
            + "put 1 0 1;take 1 0 1;carry 1 0;break 1 1;shift 1 2 3 4;seen 3 1 0 7;"};

    private final Check check = new Check();
    private final Random random = new Random(54);

    public static void main(String[] args) throws Exception {
        NeverThrowsTest test = new NeverThrowsTest();
        List<Method> face = new ArrayList<>();
        for (Method m : ExchequerCloth.class.getDeclaredMethods()) {
            if (Modifier.isPublic(m.getModifiers())) {
                face.add(m);
            }
        }
        face.sort(Comparator.comparing(Method::getName));
        for (int run = 0; run < 2000; run++) {
            test.play(face, TEXTS[run % TEXTS.length]);
        }
        test.check.finish("NeverThrowsTest");
    }

    private void play(List<Method> face, String text) throws Exception {
        ExchequerCloth x = Told.cloth(text);
        boolean wild = random.nextBoolean();
        for (int i = 0; i < 480; i++) {
            Method m = face.get(random.nextInt(face.size()));
            Object[] args = new Object[m.getParameterCount()];
            for (int p = 0; p < args.length; p++) {
                args[p] = m.getParameterTypes()[p] == boolean.class ? (Object) random.nextBoolean() : (Object) value(wild);
            }
            if (!m.getName().equals("text") && !m.getName().equals("drop") || random.nextInt(8) == 0) {
                call(x, m, args);
            }
        }
        for (int r = 0; r < x.count(1); r++) {
            for (int c = 0; c < x.count(0); c++) {
                check.holds("a cell within bounds", x.of(r, c) >= 0 && x.of(r, c) <= 99);
            }
        }
    }

    private int value(boolean wild) {
        if (wild || random.nextInt(12) == 0) {
            return EDGES[random.nextInt(EDGES.length)];
        }
        return random.nextInt(6);
    }

    private void call(ExchequerCloth x, Method m, Object[] args) throws Exception {
        try {
            m.invoke(x, args);
        } catch (InvocationTargetException thrown) {
            check.holds(m.getName() + Arrays.toString(args) + " threw " + thrown.getCause(), false);
        }
    }
}
