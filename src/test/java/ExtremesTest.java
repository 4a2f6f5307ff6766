import java.lang.reflect.InvocationTargetException;
import java.lang.reflect.Method;
import java.lang.reflect.Modifier;
import java.util.ArrayList;
import java.util.Comparator;
import java.util.List;
import java.util.Random;

/** No call ever throws, whatever its arguments are: every call with edges of all kinds, in many states. */
public final class ExtremesTest {
    private static final int[] EDGES = {Integer.MIN_VALUE, Integer.MIN_VALUE + 1, -65536, -10, -2, -1, 0, 1, 2, 3, 4, 5,
        6, 7, 8, 9, 12, 13, 15, 16, 17, 20, 26, 27, 31, 32, 59, 60, 61, 255, 256, 300, 301, 900, 901, 999, 1000, 9999,
        10000, 65536, Integer.MAX_VALUE - 1, Integer.MAX_VALUE};
    private static final String FULL = full();

    private ExtremesTest() {
    }

    private static String full() {
        StringBuilder text = new StringBuilder();
        for (char c = 'a'; c < 'i'; c++) {
            text.append("sound s").append(c).append(" abcabcabcabcab").append(c).append("z;");
            text.append("jar j").append(c).append(" size 12 leaks 1 costs 99 worth 99 breaks 15;");
            text.append("fill j").append(c).append(" of s").append(c).append(" from ").append(c - 'a')
                    .append(" on 1;");
        }
        return text.toString();
    }

    public static void main(String[] args) throws Exception {
        List<Method> calls = new ArrayList<>();
        for (Method method : EchoJars.class.getDeclaredMethods()) {
            if (Modifier.isPublic(method.getModifiers())) {
                calls.add(method);
            }
        }
        calls.sort(Comparator.comparing(Method::getName));
        Random random = new Random(5);
        for (int run = 0; run < 1500; run++) {
            EchoJars x = new EchoJars();
            if (run % 4 != 0) {
                Check.same("full", Texts.shop(x, FULL), 8);
                x.day(run % 20);
                x.tray(run % 3, run % 4, 60);
                Texts.law(x, "mix any with any gives z;");
            }
            // three calls each; the document promises nothing behind the 512th
            for (int k = 0; k < 150; k++) {
                tryOne(calls.get(random.nextInt(calls.size())), x, random);
            }
        }
        fullCalls();
        Check.finish();
    }

    private static void tryOne(Method method, EchoJars x, Random random) throws Exception {
        Class<?>[] types = method.getParameterTypes();
        Object[] values = new Object[types.length];
        StringBuilder told = new StringBuilder(method.getName());
        for (int k = 0; k < values.length; k++) {
            int v = random.nextInt(3) == 0 ? EDGES[random.nextInt(EDGES.length)] : random.nextInt(9);
            values[k] = types[k] == long.class ? (Object) (long) v : (Object) v;
            told.append(' ').append(v);
        }
        boolean thrown = false;
        try {
            method.invoke(x, values);
        } catch (InvocationTargetException e) {
            thrown = true;
            System.out.println(told + ": " + e.getCause());
        }
        Check.not(told.toString(), thrown);
        int status = x.status();
        Check.is("a STATUS", status >= 0 && status <= 11);
        Check.is("a FRACTION", x.bottom() > 0);
    }

    /** The dearest calls of a SHOP with all that it can have. */
    private static void fullCalls() {
        EchoJars x = Texts.opened(FULL);
        x.day(1);
        for (int k = 0; k < 80; k++) {
            Check.fine("chain", x, x.chain(1 + k % 11), x.chain(1 + k % 11));
            Check.is("merged", x.merged(63) >= 12);
            Check.is("shelf", x.shelf() > 0);
        }
    }
}
