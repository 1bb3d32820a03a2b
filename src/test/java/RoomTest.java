import java.lang.management.ManagementFactory;
import java.lang.reflect.Array;
import java.lang.reflect.Field;
import java.lang.reflect.Modifier;
import java.util.ArrayDeque;
import java.util.Deque;
import java.util.IdentityHashMap;
import java.util.Map;

/** What an object takes of the one room, and that its calls take nothing more. */
public final class RoomTest {
    private final Check check = new Check();
    private long objects;
    private long parts;

    public static void main(String[] args) throws Exception {
        RoomTest test = new RoomTest();
        test.measureObject();
        test.measureCalls();
        test.check.finish("RoomTest");
    }

    private void measureObject() throws Exception {
        Map<Object, Boolean> known = new IdentityHashMap<>();
        Deque<Object> open = new ArrayDeque<>();
        open.add(new ExchequerCloth());
        while (!open.isEmpty()) {
            Object one = open.pop();
            if (known.put(one, true) == null) {
                objects++;
                measure(one, open);
            }
        }
        System.out.println("an object takes " + objects + " objects and arrays, " + parts + " fields and elements");
        check.holds("few objects", objects < 300);
        check.holds("few fields and elements", parts < 15000);
    }

    private void measure(Object one, Deque<Object> open) throws Exception {
        if (one.getClass().isArray()) {
            parts += Array.getLength(one);
            if (one instanceof Object[] many) {
                for (Object part : many) {
                    open.push(part);
                }
            }
            return;
        }
        for (Field f : one.getClass().getDeclaredFields()) {
            if (!Modifier.isStatic(f.getModifiers())) {
                parts++;
                f.setAccessible(true);
                if (!f.getType().isPrimitive()) {
                    open.push(f.get(one));
                }
            }
        }
    }

    private void measureCalls() {
        com.sun.management.ThreadMXBean bean =
            (com.sun.management.ThreadMXBean) ManagementFactory.getThreadMXBean();
        ExchequerCloth x = Told.cloth("column 1;column 12;column 20;row 30 5 1;row 40 9;put 0 0 1;put 1 0 1;");
        use(x);
        long thread = Thread.currentThread().getId();
        long before = bean.getThreadAllocatedBytes(thread);
        long told = 0;
        for (int i = 0; i < 100; i++) {
            told += use(x);
        }
        long made = bean.getThreadAllocatedBytes(thread) - before;
        System.out.println("3000 calls make " + made + " bytes (" + told + ")");
        check.holds("calls make nothing", made < 3000);
    }

    private long use(ExchequerCloth x) {
        long all = x.feed(0x20202020, 0x20202020, 0x20202020, 0x20202020, 0x20202020) + x.back(20);
        all += x.put(false, 0, 0, 1) + x.carry(false, 0, 0) + x.shift(0, 1, 0, 1) + x.slide(0, 1, true);
        all += x.see(1, 0, 0, 31) + x.ways(0, 55) + x.taken(0, 55, -1) + x.breaks(0, 55) + x.missing(0);
        all += x.pays(0, 1, 17) + x.paysOf(0, 1, 17, 0) + x.slides() + x.slideAt(0, 0) + x.leftOut() + x.look(3);
        all += x.spell(5) + x.report(0, 5) + x.count(6) + x.at(1, 0, 0) + x.sumAt(1) + x.differs() + x.wrong();
        all += x.undo() + x.undo() + x.undo() + x.undo() + x.undo() + x.apart(0, 1);
        return all;
    }
}
