import java.lang.reflect.Method;
import java.lang.reflect.Modifier;
import java.util.ArrayList;
import java.util.Arrays;
import java.util.List;
import java.util.Random;

/**
 * "What it is": each of its sentences by whole runs of the calls that it speaks of, and what one
 * call leaves behind and another one shows, up to the 512 calls for which an object is used.
 */
final class LongEdges {
    private static final String[] ASKING = {"sets", "of", "is", "profile", "pressed", "rounds", "ordered", "least", "leastSets",
        "meets", "cascade", "bound", "scaled", "cells", "border", "firstCells", "leastCells", "meetsCells", "bits", "weight",
        "judge", "lots", "paper", "kept", "get", "trace", "taken", "alike", "count"};

    /** Each part of what an object holds, and the calls that may make it otherwise. */
    private static final String[][] MAKING = {
        {"cube", "cube", "back"},
        {"families", "cube", "come", "drop", "press", "first", "read", "set", "undo", "redo", "back"},
        {"changes", "cube", "come", "drop", "press", "first", "read", "set", "undo", "redo", "back"},
        {"grid", "grid"},
        {"tape", "feed", "wipe", "read"},
        {"paper", "write"},
        {"shelves", "shelf", "keep", "like", "shift"},
        {"lists", "list", "put"},
        {"trace", "act"},
        {"image", "image"}
    };

    private LongEdges() { }

    static void test() {
        summary();
        Sentences.of("What it is", "An object is used for at most 512 calls after it has been made;", () -> {
            held();
            OftenEdges.test();
        });
        Sentences.of("What it is", "what later calls answer is free.", LongEdges::laterCallsAnswerToo);
    }

    private static void summary() {
        of("Least shadows: families of sets on a cube, of kinds;", "come*3", "set*8", "sets*4", "of*6", "taken*2", "drop", "cube");
        of("shadows below and above, borders, edges;", "come*3", "set*3", "sets*8", "of*8", "drop*2", "cube");
        of("cascades and their bounds, what passes an int;", "cascade*6", "bound*2", "scaled*4");
        of("pairs of elements by which a family is pressed together till it is at rest;",
            "come*3", "set*2", "press*2", "pressed*6", "rounds*3", "is*2", "sets*2", "drop*3", "cube");
        of("first ones of several orders, least borders of all families of a size,",
            "cube", "ordered*4", "first*3", "sets*3", "drop*3", "least*3", "leastSets*3");
        Sentences.of("What it is", "whether orders meet them and are nested;", LongEdges::ordersMeetAndAreNested);
        of("grids likewise;", "grid*2", "cells*4", "border*4", "firstCells*4", "leastCells*2", "meetsCells*2");
        of("who is no other's part, who meets all;", "come*3", "set*3", "is*8", "profile*3", "drop", "cube");
        of("measures as floats and doubles;", "come*3", "set*3", "bits*6", "weight*4", "drop", "cube");
        of("families as texts, written,", "feed*16", "wipe", "read*4", "sets*3", "write*3", "paper*6", "count*2", "set", "drop*2", "cube");
        of("rows of families that others may not come to;",
            "come*2", "set*5", "shelf*2", "keep*8", "kept*8", "like*2", "shift*5", "undo", "drop", "cube");
        of("told profiles,", "come*2", "set*2", "list*2", "put*6", "get*3", "judge*5", "profile*2", "drop", "cube");
        of("lots,", "lots*6", "cube");
        of("changes undone,", "come", "set*40", "undo*20", "redo*16", "of*20", "count*8", "drop", "image", "back");
        of("an image.", "image*2", "alike*5", "back*2", "set*8", "undo*2", "redo", "come*3", "drop*3", "cube", "of*4", "count*2");
    }

    private static void of(String words, String... calls) {
        Sentences.of("What it is", words, () -> Story.runs(words.length(), 12, calls));
    }

    /** Nested: the first ones are among the first ones of more. */
    private static void ordersMeetAndAreNested() {
        Story.runs(17, 12, "meets*4", "meetsCells*4", "cube", "grid");
        for (int n = 1; n <= 6; n++) {
            for (int order = 0; order <= 3; order++) {
                LeastShadows x = Made.cube(n);
                long ahead = 0;
                for (int m = 1; m <= 1 << n; m++) {
                    long sets = x.sets(x.first(order, m), 0);
                    Due.is("one more, m " + m, Long.bitCount(sets & ~ahead), 1);
                    Due.is("all ahead of it, m " + m, ahead & ~sets, 0);
                    Due.is("it is the last by the order", sets & ~ahead, 1L << x.ordered(order, m - 1));
                    ahead = sets;
                    x.drop();
                }
            }
        }
        LeastShadows x = new LeastShadows();
        for (int order = 0; order <= 2; order++) {
            long ahead = 0;
            for (int m = 1; m <= 16; m++) {
                long cells = x.firstCells(order, m);
                Due.is("one more cell, m " + m, Long.bitCount(cells & ~ahead), 1);
                Due.is("all cells ahead of it, m " + m, ahead & ~cells, 0);
                ahead = cells;
            }
        }
    }

    // ---- what is held while other calls come

    private static String[] namesThatLeave(String part) {
        List<String> names = new ArrayList<>(Arrays.asList(ASKING));
        List<String> making = new ArrayList<>();
        for (String[] made : MAKING) {
            List<String> calls = Arrays.asList(made).subList(1, made.length);
            names.addAll(calls);
            if (made[0].equals(part)) {
                making.addAll(calls);
            }
        }
        names.removeAll(making);
        return names.toArray(new String[0]);
    }

    /** The part is as it was made, when so many other calls came as an object may still have. */
    private static void held(String part, String made, String... looks) {
        int looked = String.join(" ", looks).trim().split("\\s+").length;
        for (int seed = 0; seed < 12; seed++) {
            Story story = new Story(part + " is held, seed " + seed, 7000 + seed).tell(made);
            story.meanwhile(story.left() - looked, namesThatLeave(part)).tell(looks);
            Due.is("each of the calls was made", story.left(), 0);
            story.end();
        }
    }

    private static void held() {
        List<String> names = new ArrayList<>(Arrays.asList(namesThatLeave("no part")));
        for (String name : Story.allNames()) {
            Due.holds(name + "() asks or makes", names.contains(name));
        }
        held("cube", "cube(3)=4", "count(1)=3 come(256)=-1 ordered(0,7)=7 ordered(0,8)=-2 cube(1)=3");
        held("families", "cube(5)=4 come(6)=0 come(0)=1 come(4294967295)=2 set(2,0,4)=0 set(2,1,2)=0 set(0,0,5)=0 set(0,1,7)=0",
            "count(0)=3 of(0,0)=5 of(0,1)=7 sets(0,1)=6 of(1,0)=0 of(1,1)=0 sets(1,1)=0 of(2,0)=4 of(2,1)=2 of(2,2)=16",
            "of(3,0)=-1 come(1)=3 drop()=3 drop()=2 drop()=1 drop()=0 drop()=-5");
        held("changes", "come(6)=0 come(9)=1 set(0,1,1)=0 set(0,1,2)=1 set(0,1,3)=2 set(0,1,4)=3 set(0,1,5)=4 set(0,1,6)=5 set(0,1,7)=6"
            + " set(0,1,8)=7 set(0,1,9)=8 set(1,0,1)=0 set(1,0,2)=1 set(1,0,3)=2 set(1,0,4)=3 set(1,0,5)=4"
            + " undo()=11 undo()=10 undo()=9 undo()=8 undo()=7",
            "count(2)=7 count(3)=5 of(1,0)=0 redo()=4 of(1,0)=1 redo()=3 redo()=2 redo()=1 redo()=0 of(1,0)=5 redo()=-5 count(2)=12",
            "undo()=11 undo()=10 undo()=9 undo()=8 undo()=7 of(1,0)=0 of(0,1)=9 undo()=6 undo()=5 undo()=4 undo()=3 undo()=2 undo()=1",
            "of(0,1)=3 undo()=0 of(0,1)=2 undo()=-5 count(3)=12");
        held("grid", "grid(5,3)=44", "border(1)=34 firstCells(0,16)=VOID firstCells(0,15)=32767 cells(32768,0)=-1 grid(1,1)=53");
        held("tape", "feed(97)=1 feed(98)=2 feed(44)=3 feed(99)=4 feed(44)=5 feed(48)=6",
            "count(4)=6 feed(44)=7 feed(100)=8 count(4)=8 cube(4) read()=0 sets(0,1)=281 count(4)=0 wipe()=0");
        held("paper", "come(4105)=0 write(0)=7",
            "count(5)=7 paper(0)=48 paper(1)=44 paper(2)=97 paper(3)=98 paper(4)=44 paper(5)=99 paper(6)=100 paper(7)=-2 paper(-1)=-2");
        held("shelves", "cube(6)=4 come(259)=0 shelf(0,0,3)=1 keep(0,1,0)=1 set(0,0,3)=0 set(0,1,1)=0 shelf(1,1,2)=1 keep(1,0,0)=1"
            + " set(0,0,2)=3 shelf(2,2,6)=1 keep(2,5,0)=1",
            "count(6)=3 cube(4) kept(0,0)=VOID kept(0,1)=259 kept(0,2)=VOID kept(1,0)=258 kept(1,1)=VOID kept(2,5)=49280 kept(2,4)=VOID",
            "cube(3)=4 kept(0,1)=3 kept(1,0)=2 kept(2,5)=192 cube(6)=3 kept(0,1)=259",
            "come(1)=0 keep(1,1,0)=-12 keep(2,0,0)=-12 keep(0,2,0)=1 keep(0,3,0)=-13 keep(1,2,0)=-13 keep(2,6,0)=-13");
        held("lists", "list(0,0,3)=1 put(0,2,4294967301)=1 list(2,1,20)=1 put(2,19,4294967301)=1",
            "count(7)=2 get(0,0)=0 get(0,2)=5 get(0,3)=VOID get(1,0)=VOID get(2,0)=0 get(2,19)=4294967301 get(2,20)=VOID",
            "put(0,0,4294967295)=1 get(0,0)=-1 put(2,0,4294967295)=1 get(2,0)=4294967295 put(1,0,1)=-11 put(0,3,1)=-13");
        held("trace", "come(3)=0 come(3)=1 set(1,0,5)=0 set(1,1,4)=0 act(1,2,7)=-58",
            "trace(0)=40 trace(1)=12 trace(2)=11 trace(3)=41 trace(4)=30 trace(5)=10 trace(6)=-2 trace(-1)=-2");
        held("image", "cube(5)=4 come(7)=0 come(2147483648)=1 set(1,0,4)=0 set(1,1,5)=0 set(0,1,9)=0 image()=2",
            "back()=2 count(1)=5 count(0)=2 of(0,0)=0 of(0,1)=9 sets(0,1)=7 of(1,0)=4 of(1,1)=5 sets(1,1)=2147483648",
            "sets(1,0)=4294967295 count(2)=0 count(3)=0 undo()=-5 alike()=1 set(1,1,4)=5 alike()=0 undo()=0 alike()=1");
    }

    // ---- later calls

    /** What they answer is free; that they answer at all is not: no call throws, for any numbers. */
    private static void laterCallsAnswerToo() {
        int[] ints = {0, 1, 2, 3, 4, 5, 6, 7, 8, 9, 12, 16, 20, 21, 44, 48, 64, 80, 97, 98, 99, 100, 102, 126, 127, -1, -2, -14,
            Integer.MAX_VALUE, Integer.MAX_VALUE - 1, Integer.MIN_VALUE, Integer.MIN_VALUE + 1, 2000000000};
        long[] longs = {0, 1, 3, 6152, 65535, 65536, -1, Long.MIN_VALUE, Long.MAX_VALUE, 1L << 32, 1L << 63 | 1};
        Random random = new Random(512);
        List<Method> calls = new ArrayList<>();
        for (Method call : LeastShadows.class.getDeclaredMethods()) {
            if (Modifier.isPublic(call.getModifiers())) {
                calls.add(call);
            }
        }
        calls.sort((a, b) -> a.getName().compareTo(b.getName()));
        LeastShadows x = new LeastShadows();
        int answered = 0;
        for (int i = 0; i < 60000; i++) {
            Method call = calls.get(random.nextInt(calls.size()));
            Class<?>[] types = call.getParameterTypes();
            Object[] values = new Object[types.length];
            for (int v = 0; v < values.length; v++) {
                if (types[v] == long.class) {
                    values[v] = longs[random.nextInt(longs.length)];
                } else {
                    values[v] = random.nextInt(3) > 0 ? random.nextInt(6) : ints[random.nextInt(ints.length)];
                }
            }
            answered += answers(x, call, values) ? 1 : 0;
        }
        Due.is("calls that answered", answered, 60000);
    }

    private static boolean answers(LeastShadows x, Method call, Object[] values) {
        try {
            call.invoke(x, values);
            return true;
        } catch (ReflectiveOperationException e) {
            System.out.println(call.getName() + Arrays.toString(values) + " threw " + e.getCause());
            return false;
        }
    }
}
