import java.lang.management.ManagementFactory;
import java.lang.reflect.Array;
import java.lang.reflect.Field;
import java.lang.reflect.Modifier;
import java.util.ArrayDeque;
import java.util.Deque;
import java.util.IdentityHashMap;
import java.util.Map;

/** What an object holds, and that its calls make next to nothing. */
public final class RoomTest {
    private static final long MOST_OBJECTS = 200;
    private static final long MOST_ELEMENTS = 1300000;
    private static final long MOST_BYTES = 100000;

    private static void holds() throws IllegalAccessException {
        Map<Object, Boolean> seen = new IdentityHashMap<>();
        Deque<Object> open = new ArrayDeque<>();
        open.add(new ProofLibrary());
        long elements = 0;
        while (!open.isEmpty()) {
            Object o = open.pop();
            if (seen.put(o, true) != null) {
                continue;
            }
            if (o.getClass().isArray()) {
                elements += Array.getLength(o);
                continue;
            }
            for (Field f : o.getClass().getDeclaredFields()) {
                if (Modifier.isStatic(f.getModifiers())) {
                    continue;
                }
                elements++;
                f.setAccessible(true);
                if (!f.getType().isPrimitive() && f.get(o) != null) {
                    open.add(f.get(o));
                }
            }
        }
        if (seen.size() > MOST_OBJECTS || elements > MOST_ELEMENTS) {
            System.out.println("an object holds " + seen.size() + " objects and " + elements + " fields and elements");
            Runs.wrong++;
        }
    }

    private static long allocated() {
        com.sun.management.ThreadMXBean threads = (com.sun.management.ThreadMXBean) ManagementFactory.getThreadMXBean();
        return threads.getThreadAllocatedBytes(Thread.currentThread().getId());
    }

    private static void callsMakeNothing() {
        Runs r = new Runs("room");
        r.reads("$c |- wff = ( ) n d $. $v x y $. fx $f wff x $. fy $f wff y $. we $a wff ( x = y ) $. wn $a wff n x $. wd $a wff d x $. "
            + "df $a |- ( d x = n n x ) $. ${ h $e |- n x $. mp $a |- x $. $} th $p |- n ( d x = n n x ) $= ? $. "
            + "t2 $p wff ( n x = n x ) $= fx wn fx wn we $.");
        allocated();
        long before = allocated();
        for (int n = 0; n < 100; n++) {
            r.x.equate(2);
            for (int i = 0; i < 10; i++) {
                r.x.trees(i);
                r.x.definition(i);
                for (int what = 0; what < 8; what++) {
                    r.x.print(what, i, 0);
                }
            }
            r.x.feed(0x7c2d206e, 0x206e206e, 0x206e206e, 0x206e2078, 0x20202020);
            r.x.apply(8);
            r.x.feed(0x7c2d206e, 0x206e206e, 0x206e206e, 0x206e2078, 0x20202020);
            r.x.read();
            r.x.check();
        }
        long made = allocated() - before;
        if (made > MOST_BYTES) {
            System.out.println("the calls made " + made + " bytes");
            Runs.wrong++;
        }
    }

    public static void main(String[] args) throws IllegalAccessException {
        holds();
        callsMakeNothing();
        Runs.finish();
    }
}
