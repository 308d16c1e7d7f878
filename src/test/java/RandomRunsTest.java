import java.lang.reflect.Method;
import java.lang.reflect.Modifier;
import java.util.ArrayList;
import java.util.Arrays;
import java.util.Comparator;
import java.util.List;
import java.util.Random;

/** Runs of 512 random calls (of fixed seeds), each compared with the plain model. */
public final class RandomRunsTest {
    private static final int[] STRANGE = {-1, -2, 7, 8, 9, 64, 65, 100, -100, Integer.MAX_VALUE, Integer.MIN_VALUE};
    private static final long[] STRANGE_LONGS = {-1, 1, 0, Long.MIN_VALUE, Long.MAX_VALUE, 65535, 65536, 1L << 32, -1L << 16};

    private static final Random random = new Random(20261118);

    /** Calls that build what the others ask for come more often. */
    private static List<Method> weighted() {
        List<Method> calls = new ArrayList<>();
        Method[] all = LeastShadows.class.getDeclaredMethods();
        Arrays.sort(all, Comparator.comparing(Method::getName));
        for (Method call : all) {
            if (!Modifier.isPublic(call.getModifiers())) {
                continue;
            }
            int times;
            switch (call.getName()) {
                case "come": case "feed": case "keep": case "set": times = 12; break;
                case "undo": case "redo": case "kept": case "shift": case "put": case "read": times = 6; break;
                case "cube": case "grid": case "back": case "drop": times = 1; break;
                default: times = 3;
            }
            for (int i = 0; i < times; i++) {
                calls.add(call);
            }
        }
        return calls;
    }

    private static int below(int n) {
        return random.nextInt(n);
    }

    private static int anInt(String call, int place, int elements, int wh) {
        if (below(25) == 0) {
            return STRANGE[below(STRANGE.length)];
        }
        switch (call) {
            case "cube": return below(3) > 0 ? 3 + below(4) : 1 + below(6);
            case "set": return place == 0 ? below(5) : place == 1 ? below(2) : below(7);
            case "ordered": return place == 0 ? below(4) : below((1 << elements) + 1);
            case "first": return place == 0 ? below(4) : below((1 << elements) + 2);
            case "least": case "leastSets": return place == 0 ? below(3) : place == 1 ? below(below(2) == 0 ? 8 : (1 << elements) + 1) : below(elements + 1);
            case "meets": return place == 0 ? below(4) : place == 1 ? below(2) : below((1 << elements) + 1);
            case "cascade": return place == 1 ? 1 + below(13) : place == 2 ? below(8) - 1 : number();
            case "bound": return place == 1 ? 1 + below(12) : number();
            case "scaled": return place == 1 ? 1 + below(12) : number();
            case "grid": return 1 + below(below(2) == 0 ? 4 : 8);
            case "firstCells": return place == 0 ? below(3) : below(wh + 1);
            case "leastCells": return place == 0 ? below(2) : below(wh + 1);
            case "meetsCells": return place == 0 ? below(3) : place == 1 ? below(2) : below(wh + 1);
            case "lots": return place == 0 ? 1 + below(20) : place == 1 ? below(101) : place == 2 ? random.nextInt() : below(2);
            case "feed": return below(3) == 0 ? ',' : below(12) == 0 ? '0' : below(30) == 0 ? 32 + below(95) : 'a' + below(elements);
            case "shelf": return place == 0 ? below(3) : place == 1 ? (below(6) == 0 ? -1 : below(3)) : below(7);
            case "keep": return place == 0 ? below(3) : below(6);
            case "shift": return place == 4 ? below(4) : place % 2 == 0 ? below(3) : below(4);
            case "list": return place == 0 ? below(3) : place == 1 ? below(3) - 1 : below(9);
            case "act": return place == 0 ? below(5) : place == 1 ? below(3) : random.nextInt();
            case "paper": return below(40);
            default: return below(5);
        }
    }

    private static int number() {
        switch (below(4)) {
            case 0: return below(30);
            case 1: return below(5000);
            case 2: return 2000000000 - below(3);
            default: return below(2000000001);
        }
    }

    private static long aLong(String call, int elements, int wh) {
        if (below(10) == 0) {
            return STRANGE_LONGS[below(STRANGE_LONGS.length)];
        }
        if (call.equals("put")) {
            return below(2) == 0 ? below(4) : random.nextLong();
        }
        int places = call.equals("come") ? 1 << elements : wh;
        long some = random.nextLong();
        for (int i = below(4); i > 0; i--) {
            some &= random.nextLong();
        }
        return below(30) == 0 || places == 64 ? some : some & (1L << places) - 1;
    }

    private static Object[] arguments(Method call, int elements, int wh) {
        Class<?>[] types = call.getParameterTypes();
        Object[] values = new Object[types.length];
        for (int i = 0; i < types.length; i++) {
            if (types[i] == long.class) {
                values[i] = aLong(call.getName(), elements, wh);
            } else {
                values[i] = anInt(call.getName(), i, elements, wh);
            }
        }
        return values;
    }

    public static void main(String[] args) throws Exception {
        List<Method> calls = weighted();
        for (int run = 0; run < 400; run++) {
            LeastShadows own = new LeastShadows();
            PlainShadows plain = new PlainShadows();
            int wh = 16;
            for (int i = 0; i < 512; i++) {
                Method call = calls.get(below(calls.size()));
                Object[] values = arguments(call, plain.count(1), wh);
                Method model = PlainShadows.class.getDeclaredMethod(call.getName(), call.getParameterTypes());
                long want = ((Number) model.invoke(plain, values)).longValue();
                long got = ((Number) call.invoke(own, values)).longValue();
                Due.is("run " + run + ", call " + i + ": " + call.getName() + Arrays.toString(values), got, want);
                if (got != want) {
                    break;
                }
                if (call.getName().equals("grid") && got > 0) {
                    wh = (Integer) values[0] * (Integer) values[1];
                }
            }
        }
        Due.end();
    }
}
