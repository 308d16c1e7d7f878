import java.lang.reflect.Method;
import java.lang.reflect.Modifier;
import java.util.ArrayList;
import java.util.Arrays;
import java.util.List;
import java.util.Map;
import java.util.Random;
import java.util.TreeMap;

/**
 * A row of calls on a new object, no more than an object is used for. Calls are told with the
 * answers that are due, or drawn (by a fixed seed); each answer is compared with the plain model's.
 */
final class Story {
    static final int CALLS = 512;

    private static final int[] STRANGE = {-1, -2, 7, 8, 9, 64, 65, 100, -100, Integer.MAX_VALUE, Integer.MIN_VALUE};
    private static final long[] STRANGE_LONGS = {-1, 1, 0, Long.MIN_VALUE, Long.MAX_VALUE, 65535, 65536, 1L << 32, -1L << 16};
    private static final Map<String, Method[]> FACE = face();

    private final String about;
    private final Random random;
    private final LeastShadows own = new LeastShadows();
    private final PlainShadows plain = new PlainShadows();
    private int wh = 16;
    private int calls = 0;
    private boolean right = true;

    Story(String about, long seed) {
        this.about = about;
        random = new Random(seed);
    }

    /** Whole runs drawn from these calls. */
    static void runs(long seed, int runs, String... names) {
        for (int run = 0; run < runs; run++) {
            new Story("run " + run + " of seed " + seed, seed * 1000 + run).meanwhile(CALLS, names).end();
        }
    }

    /** How many calls the object may still be used for. */
    int left() {
        return CALLS - calls;
    }

    /** One call, which has this answer. */
    Story is(long want, String name, long... values) {
        long got = made(name, fitting(name, values));
        Due.is(about + ", call " + calls + ": " + name + Arrays.toString(values), got, want);
        return this;
    }

    /** Calls with their answers, as in "come(6)=0 drop()=0"; one without an answer may have any. */
    Story tell(String... told) {
        for (String calls : told) {
            for (String call : calls.trim().split("\\s+")) {
                int opens = call.indexOf('(');
                int closes = call.indexOf(')');
                String name = call.substring(0, opens);
                String inside = call.substring(opens + 1, closes);
                long[] values = inside.isEmpty() ? new long[0] : Arrays.stream(inside.split(",")).mapToLong(Story::number).toArray();
                if (closes + 1 == call.length()) {
                    made(name, fitting(name, values));
                } else {
                    is(number(call.substring(closes + 2)), name, values);
                }
            }
        }
        return this;
    }

    private static long number(String text) {
        return text.equals("VOID") ? Long.MIN_VALUE : Long.parseLong(text);
    }

    /** So many calls, drawn from these; "set*3" comes thrice as often as "set". */
    Story meanwhile(int many, String... names) {
        List<String> drawn = new ArrayList<>();
        for (String name : names) {
            String[] word = name.split("\\*");
            int times = word.length > 1 ? Integer.parseInt(word[1]) : 1;
            for (int i = 0; i < times; i++) {
                drawn.add(word[0]);
            }
        }
        for (int i = 0; i < many && right; i++) {
            String name = drawn.get(below(drawn.size()));
            made(name, arguments(FACE.get(name)[0]));
        }
        return this;
    }

    /** An object is used for so many calls at most. */
    void end() {
        Due.holds(about + " is no longer than an object is used", calls <= CALLS);
    }

    private long made(String name, Object[] values) {
        Method[] call = FACE.get(name);
        calls++;
        long want = answer(call[1], plain, values);
        long got = answer(call[0], own, values);
        right &= got == want;
        Due.is(about + ", call " + calls + ": " + name + Arrays.toString(values) + " (by the plain model)", got, want);
        if (name.equals("grid") && want > 0) {
            wh = (Integer) values[0] * (Integer) values[1];
        }
        return got;
    }

    private static Object[] fitting(String name, long[] values) {
        Class<?>[] types = FACE.get(name)[0].getParameterTypes();
        Object[] fitting = new Object[values.length];
        for (int i = 0; i < values.length; i++) {
            if (types[i] == long.class) {
                fitting[i] = values[i];
            } else {
                fitting[i] = (int) values[i];
            }
        }
        return fitting;
    }

    /** The names of all calls of the face, in the order of the alphabet. */
    static List<String> allNames() {
        return new ArrayList<>(FACE.keySet());
    }

    /** Each call of the face, of the class and of the plain model. */
    private static Map<String, Method[]> face() {
        Map<String, Method[]> face = new TreeMap<>();
        try {
            for (Method call : LeastShadows.class.getDeclaredMethods()) {
                if (Modifier.isPublic(call.getModifiers())) {
                    face.put(call.getName(), new Method[] {
                        call, PlainShadows.class.getDeclaredMethod(call.getName(), call.getParameterTypes())});
                }
            }
        } catch (NoSuchMethodException e) {
            throw new IllegalStateException("the plain model has not all calls", e);
        }
        return face;
    }

    private static long answer(Method call, Object object, Object[] values) {
        try {
            return ((Number) call.invoke(object, values)).longValue();
        } catch (ReflectiveOperationException e) {
            throw new IllegalStateException(call.getName() + Arrays.toString(values) + " threw", e);
        }
    }

    private Object[] arguments(Method call) {
        Class<?>[] types = call.getParameterTypes();
        Object[] values = new Object[types.length];
        for (int i = 0; i < types.length; i++) {
            if (types[i] == long.class) {
                values[i] = aLong(call.getName());
            } else {
                values[i] = below(30) == 0 ? STRANGE[below(STRANGE.length)] : anInt(call.getName(), i);
            }
        }
        return values;
    }

    private int below(int n) {
        return random.nextInt(n);
    }

    /** Mostly the number of a family that is there. */
    private int family() {
        int many = plain.count(0);
        return below(12) == 0 || many == 0 ? below(9) : below(many);
    }

    private int anInt(String call, int place) {
        int sets = 1 << plain.count(1);
        switch (call) {
            case "set": return place == 0 ? family() : place == 1 ? below(2) : below(below(2) == 0 ? 6 : 10);
            case "sets": case "is": return place == 0 ? family() : below(5);
            case "of": return place == 0 ? family() : below(7);
            case "profile": return place == 0 ? family() : below(plain.count(1) + 2);
            case "pressed": return place == 0 ? family() : place == 1 ? below(5) : 1 + below(plain.count(1));
            case "bits": return place == 0 ? family() : below(3);
            case "taken": return place == 0 ? family() : below(6);
            case "press": case "rounds": case "weight": case "write": return family();
            case "judge": return place == 0 ? below(3) : family();
            case "act": return place == 0 ? family() : place == 1 ? below(3) : random.nextInt();
            case "cube": return below(3) > 0 ? 3 + below(4) : 1 + below(6);
            case "ordered": case "first": return place == 0 ? below(4) : below(sets + 2);
            case "least": case "leastSets":
                return place == 0 ? below(3) : place == 1 ? below(below(2) == 0 ? 8 : sets + 2) : below(plain.count(1) + 1);
            case "meets": return place == 0 ? below(4) : place == 1 ? below(2) : below(sets + 1);
            case "cascade": return place == 0 ? number() : place == 1 ? 1 + below(13) : below(13) - 1;
            case "bound": case "scaled": return place == 1 ? 1 + below(12) : number();
            default: return anIntOfOthers(call, place);
        }
    }

    private int anIntOfOthers(String call, int place) {
        switch (call) {
            case "grid": return 1 + below(below(2) == 0 ? 4 : 8);
            case "cells": return below(2);
            case "firstCells": return place == 0 ? below(3) : below(wh + 2);
            case "leastCells": return place == 0 ? below(2) : below(wh + 2);
            case "meetsCells": return place == 0 ? below(3) : place == 1 ? below(2) : below(wh + 1);
            case "lots": return place == 0 ? 1 + below(20) : place == 1 ? below(101) : place == 2 ? random.nextInt() : below(2);
            case "feed": return letter();
            case "paper": return below(below(2) == 0 ? 12 : 257);
            case "shelf": return place == 0 ? below(3) : place == 1 ? (below(6) == 0 ? -1 : below(3)) : below(7);
            case "keep": return place == 0 ? below(3) : place == 1 ? below(6) : family();
            case "kept": return place == 0 ? below(3) : below(6);
            case "like": return below(3);
            case "shift": return place == 4 ? below(5) : place % 2 == 0 ? below(3) : below(4);
            case "list": return place == 0 ? below(3) : place == 1 ? below(3) - 1 : below(below(2) == 0 ? 9 : 21);
            case "put": case "get": return place == 0 ? below(3) : below(below(2) == 0 ? 4 : 20);
            case "trace": case "count": return below(8);
            default: return below(5);
        }
    }

    /** Mostly what goes on with a text of sets. */
    private int letter() {
        switch (below(40)) {
            case 0: return 32 + below(95);
            case 1: case 2: return '0';
            default: return below(5) < 2 ? ',' : 'a' + below(plain.count(1));
        }
    }

    private int number() {
        switch (below(4)) {
            case 0: return below(30);
            case 1: return below(5000);
            case 2: return 2000000000 - below(3);
            default: return below(2000000001);
        }
    }

    private long aLong(String call) {
        if (below(10) == 0) {
            return STRANGE_LONGS[below(STRANGE_LONGS.length)];
        }
        if (call.equals("put")) {
            return below(2) == 0 ? below(7) : random.nextLong();
        }
        int places = call.equals("come") ? 1 << plain.count(1) : wh;
        long some = random.nextLong();
        for (int i = below(4); i > 0; i--) {
            some &= random.nextLong();
        }
        return below(30) == 0 || places == 64 ? some : some & (1L << places) - 1;
    }
}
