import java.lang.management.ManagementFactory;
import java.lang.reflect.Array;
import java.lang.reflect.Field;
import java.lang.reflect.Modifier;
import java.util.Collections;
import java.util.IdentityHashMap;
import java.util.Set;

/** How much room an object takes: 512 new ones must fit into one run, and calls make next to nothing. */
public final class RoomTest {
    private static final Check CHECK = new Check("RoomTest");
    private static final int MOST_OBJECTS = 600_000 / 512;
    private static final int MOST_ELEMENTS = 7_300_000 / 512;

    private static int elements = 0;

    public static void main(String[] args) throws IllegalAccessException {
        SkyBox box = fullBox();
        Set<Object> seen = Collections.newSetFromMap(new IdentityHashMap<>());
        walk(box, seen);
        System.out.println("RoomTest: " + seen.size() + " objects, " + elements + " fields and elements");
        CHECK.due("few objects", seen.size() <= MOST_OBJECTS, true);
        CHECK.due("few fields and elements", elements <= MOST_ELEMENTS, true);
        callsMakeNothing(box);
        CHECK.end();
    }

    private static SkyBox fullBox() {
        SkyBox box = new SkyBox();
        for (int act = 0; act < 6; act++) {
            box.act(act % 4, act % 2, 10 + act, 2, 3, 100);
            for (int i = 0; i < 6; i++) {
                box.figure(act, 2, 1, i, i > 3);
            }
        }
        for (int i = 0; i < 100; i++) {
            box.base(2 * i, 5 + i % 5);
        }
        Check.read(box, "gap same+1 if kind!=ahead;spare 3;out if minute<20 and act==2;");
        box.plan(100);
        return box;
    }

    private static void walk(Object each, Set<Object> seen) throws IllegalAccessException {
        if (each == null || !seen.add(each)) {
            return;
        }
        Class<?> type = each.getClass();
        if (type.isArray()) {
            elements += Array.getLength(each);
            for (int i = 0; i < Array.getLength(each) && !type.getComponentType().isPrimitive(); i++) {
                walk(Array.get(each, i), seen);
            }
            return;
        }
        for (Field field : type.getDeclaredFields()) {
            if (!Modifier.isStatic(field.getModifiers())) {
                elements++;
                field.setAccessible(true);
                if (!field.getType().isPrimitive()) {
                    walk(field.get(each), seen);
                }
            }
        }
    }

    private static int allCalls(SkyBox box) {
        Check.feed(box, "gap 2;spare same;out if minute<20 or kind==9;");
        int sum = box.read() + box.place() + box.feed(0, 0, 0, 0, 0) + box.back(20) + box.refused(1, 1);
        sum += box.length(1, 5) + box.baseIn(7, 90) + box.plan(90) + box.mend(100) + box.order(0) + box.told(0, 1);
        sum += box.out(0, 5, 9) + box.can(0, 1, 2, 3, 50) + box.runway(7) + box.count(4);
        return box.falls(10) && box.cell(1, 2) && box.ground(1, 90) && box.falls(-1) ? sum : 0;
    }

    private static void callsMakeNothing(SkyBox box) {
        var threads = (com.sun.management.ThreadMXBean) ManagementFactory.getThreadMXBean();
        int sum = 0;
        for (int i = 0; i < 3; i++) {
            sum += allCalls(box);
        }
        long self = threads.getCurrentThreadAllocatedBytes();
        long before = threads.getCurrentThreadAllocatedBytes();
        for (int i = 0; i < 5; i++) {
            sum += allCalls(box);
        }
        long made = threads.getCurrentThreadAllocatedBytes() - before - (before - self);
        CHECK.due("calls make no objects (" + made + " bytes, " + sum + ")", made < 500, true);
    }
}
