import java.lang.reflect.Method;
import java.util.ArrayList;
import java.util.Arrays;
import java.util.Comparator;
import java.util.List;
import java.util.Random;

/** An edge of promise 2, by calls of every kind: whatever is refused gives NONE or false, and changes nothing. */
public final class RefusedEdgeTest {
    private static final List<String> WITHOUT_STATUS = List.of("status", "fault", "feed", "top", "bottom");
    private static final int[] WILD = {Edge.MIN, Edge.MIN + 1, -2, -1, 4, 5, 6, 7, 12, 13, 15, 16, 20, 21, 24, 25, 30, 31, 60, 61, 99, 100,
        200, 201, 300, 301, 900, 901, 9999, 10000, Edge.MAX - 1, Edge.MAX};
    private static final int EACH = 60;

    public static void main(String[] args) throws Exception {
        Edge.begin(args);
        Edge.promise(2, "A call with another STATUS than 0 gives NONE, or false, and changes nothing but STATUS");
        Random random = new Random(2);
        for (Method call : calls()) {
            int refused = 0;
            for (int i = 0; i < EACH; i++) {
                refused += isRefused(call, arguments(call, random)) ? 1 : 0;
            }
            boolean always = List.of("alliance", "mark", "back").contains(call.getName());
            Check.yes(call.getName() + " was refused at times", refused > 0 || always);
        }
        Edge.end(2, 2);
    }

    /** In a fixed order, so that a run is the same each time. */
    private static List<Method> calls() {
        List<Method> all = new ArrayList<>(Arrays.asList(BandPark.class.getDeclaredMethods()));
        all.removeIf(m -> !java.lang.reflect.Modifier.isPublic(m.getModifiers()) || WITHOUT_STATUS.contains(m.getName()));
        all.sort(Comparator.comparing(Method::getName));
        Check.same("calls with a STATUS", all.size(), 54);
        return all;
    }

    private static Object[] arguments(Method call, Random random) {
        Class<?>[] types = call.getParameterTypes();
        Object[] all = new Object[types.length];
        for (int i = 0; i < types.length; i++) {
            int number = random.nextInt(3) == 0 ? WILD[random.nextInt(WILD.length)] : random.nextInt(4);
            if (types[i] == boolean.class) {
                all[i] = random.nextBoolean();
            } else if (types[i] == long.class) {
                all[i] = (long) number;
            } else {
                all[i] = number;
            }
        }
        return all;
    }

    private static boolean isRefused(Method call, Object[] arguments) throws Exception {
        BandPark x = Edge.busy();
        Object got = call.invoke(x, arguments);
        int status = x.status();
        String what = call.getName() + Arrays.toString(arguments);
        Check.yes(what + ": status " + status, status >= 0 && status <= 11);
        // a FAULT empties the tape and is told: the texts have tests of their own
        if (status == 0 || status == 10) {
            return status == 10;
        }
        boolean none = got instanceof Boolean ? got.equals(false) : ((Number) got).longValue() == BandPark.NONE;
        Check.yes(what + " gives NONE or false", none);
        Edge.same(what, x, Edge.busy());
        return true;
    }
}
