import java.lang.reflect.Array;
import java.lang.reflect.Field;
import java.lang.reflect.Method;
import java.lang.reflect.Modifier;
import java.util.ArrayDeque;
import java.util.ArrayList;
import java.util.Arrays;
import java.util.IdentityHashMap;
import java.util.List;

/** The public face, promise 1, and the room that an object takes. */
public final class FaceTest {
    private static final String[] FACE = {
        "again(int,int)", "bits(int)", "cut(int)", "differ()", "feed(long,int)", "fill(int,int,int)", "keep()",
        "open(long)", "out(int)", "pack(int,int)", "place()", "sequence(int,int)", "set(int,int)", "size()",
        "sum(boolean)", "swap()", "table(int,int,int)", "told(int)"};

    private FaceTest() {
    }

    public static void main(String[] args) throws Exception {
        face();
        newObject();
        room();
        noObjectsByCalls();
        Check.end();
    }

    private static void face() {
        List<String> names = new ArrayList<>();
        for (Method m : TabledFrames.class.getDeclaredMethods()) {
            if (Modifier.isPrivate(m.getModifiers()) || m.isSynthetic()) {
                continue;
            }
            Check.due(m + " is public", Modifier.isPublic(m.getModifiers()) ? 1 : 0, 1);
            Check.due(m + " answers an int", m.getReturnType() == int.class ? 1 : 0, 1);
            String types = Arrays.toString(m.getParameterTypes()).replaceAll("[\\[\\] ]", "");
            names.add(m.getName() + "(" + types + ")");
        }
        names.sort(null);
        Check.due("the face is " + names, names.equals(Arrays.asList(FACE)) ? 1 : 0, 1);
        for (Field f : TabledFrames.class.getDeclaredFields()) {
            Check.due(f + " is private", Modifier.isPrivate(f.getModifiers()) ? 1 : 0, 1);
        }
        Check.due("one constructor", TabledFrames.class.getDeclaredConstructors().length, 1);
        Check.due("a final class", Modifier.isFinal(TabledFrames.class.getModifiers()) ? 1 : 0, 1);
    }

    private static void newObject() {
        TabledFrames x = new TabledFrames();
        Check.due("size", x.size(), 0);
        Check.due("out", x.out(0), -2);
        Check.due("place", x.place(), -1);
        Check.due("differ", x.differ(), -3);
        Check.told("new", x, 0, 0, 0, 0, 0, 0, 0, 0, 0, 0, 0, 0, 0, -2);
        Check.due("sequence", x.sequence(0, 0), -2);
        for (int kind = 0; kind < 3; kind++) {
            Check.due("table", x.table(kind, 0, 0), -3);
        }
        Check.due("bits", x.bits(0), -3);
        Check.due("no dictionary", x.pack(0, 4), -3);
    }

    /** All calls of a run live in one room; some ten objects should be no trouble in it. */
    private static void room() throws Exception {
        IdentityHashMap<Object, Object> seen = new IdentityHashMap<>();
        ArrayDeque<Object> next = new ArrayDeque<>();
        next.add(new TabledFrames());
        long elements = 0;
        while (!next.isEmpty()) {
            Object o = next.poll();
            if (o == null || seen.put(o, o) != null) {
                continue;
            }
            if (o.getClass().isArray()) {
                elements += Array.getLength(o);
                for (int i = 0; i < Array.getLength(o) && o instanceof Object[]; i++) {
                    add(next, Array.get(o, i));
                }
                continue;
            }
            for (Field f : o.getClass().getDeclaredFields()) {
                if (!Modifier.isStatic(f.getModifiers())) {
                    f.setAccessible(true);
                    elements++;
                    if (!f.getType().isPrimitive()) {
                        add(next, f.get(o));
                    }
                }
            }
        }
        System.out.println("an object has " + seen.size() + " objects and arrays, " + elements + " fields and elements");
        Check.due("few objects", seen.size() < 300 ? 1 : 0, 1);
        Check.due("few elements", elements < 150000 ? 1 : 0, 1);
    }

    private static void add(ArrayDeque<Object> next, Object o) {
        if (o != null) {
            next.add(o);
        }
    }

    /** No call makes an object: what the thread has allocated does not grow by calls. */
    private static void noObjectsByCalls() {
        com.sun.management.ThreadMXBean bean =
            (com.sun.management.ThreadMXBean) java.lang.management.ManagementFactory.getThreadMXBean();
        TabledFrames x = new TabledFrames();
        long least = Long.MAX_VALUE;
        for (int turn = 0; turn < 5; turn++) {
            long before = bean.getCurrentThreadAllocatedBytes();
            for (int i = 0; i < 20; i++) {
                x.feed(0, 0);
                x.fill(2500, i, 3);
                x.again(100, 900);
                x.keep();
                x.sum(true);
                x.pack(2, 7);
                x.swap();
                x.open(100000);
                x.differ();
                x.table(0, 0, 0);
                x.told(3);
            }
            least = Math.min(least, bean.getCurrentThreadAllocatedBytes() - before);
        }
        Check.due("bytes allocated by 220 calls are few", least < 4000 ? 1 : 0, 1);
    }
}
