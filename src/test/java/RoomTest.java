import com.sun.management.ThreadMXBean;
import java.lang.management.ManagementFactory;
import java.lang.reflect.Array;
import java.lang.reflect.Field;
import java.lang.reflect.Modifier;
import java.util.ArrayDeque;
import java.util.Collections;
import java.util.Deque;
import java.util.IdentityHashMap;
import java.util.Set;

/** All that a drawer needs is made with it and is small; its calls make nothing more. */
public final class RoomTest {
    private static final Check CHECK = new Check("RoomTest");

    public static void main(String[] args) throws Exception {
        size();
        callsMakeNothing();
        CHECK.end();
    }

    private static void size() throws Exception {
        Set<Object> seen = Collections.newSetFromMap(new IdentityHashMap<>());
        Deque<Object> open = new ArrayDeque<>();
        open.push(new HopeDrawer());
        int cells = 0;
        while (!open.isEmpty()) {
            Object one = open.pop();
            if (!seen.add(one)) {
                continue;
            }
            if (one.getClass().isArray()) {
                cells += Array.getLength(one);
                for (int i = 0; i < Array.getLength(one) && !one.getClass().getComponentType().isPrimitive(); i++) {
                    pushIfThere(open, Array.get(one, i));
                }
                continue;
            }
            for (Field field : one.getClass().getDeclaredFields()) {
                if (!Modifier.isStatic(field.getModifiers())) {
                    cells++;
                    field.setAccessible(true);
                    if (!field.getType().isPrimitive()) {
                        pushIfThere(open, field.get(one));
                    }
                }
            }
        }
        System.out.println("RoomTest: a drawer is " + seen.size() + " objects and " + cells + " fields and elements");
        CHECK.due("at most 600 objects", seen.size() <= 600, true);
        CHECK.due("at most 14,000 fields and elements", cells <= 14000, true);
    }

    private static void pushIfThere(Deque<Object> open, Object one) {
        if (one != null) {
            open.push(one);
        }
    }

    private static void callsMakeNothing() {
        ThreadMXBean bean = (ThreadMXBean) ManagementFactory.getThreadMXBean();
        long id = Thread.currentThread().getId();
        HopeDrawer x = new HopeDrawer();
        everyCall(x);
        long before = bean.getThreadAllocatedBytes(id);
        for (int i = 0; i < 10; i++) {
            everyCall(x);
        }
        long made = bean.getThreadAllocatedBytes(id) - before;
        CHECK.due("nothing is made by calls (" + made + " bytes)", made < 1000, true);
    }

    private static void everyCall(HopeDrawer x) {
        // "letter a 1 1 1 0; reader b 1 1 1; wet 5;"
        x.feed(0x6c657474, 0x65722061, 0x20312031, 0x20312030, 0x3b207265);
        x.feed(0x61646572, 0x20622031, 0x20312031, 0x3b207765, 0x7420353b);
        x.read();
        x.place();
        x.days(3);
        x.takeBack(0);
        x.dealt(-1);
        x.stable(0);
        x.send(0, 0);
        x.undo();
        x.burn(0);
        x.hold(0);
        x.restore(0);
        x.uneasy(0);
        x.favourite(0, 0);
        x.crowd(0, 1);
        x.chain(0);
        x.bundle(0);
        x.keep(0);
        x.barren();
        x.change(0, 1);
        x.changeBest(0);
        x.waiting(60);
        x.first();
        x.then(0, 60, 0);
        x.readerIn(0, 60, 0);
        x.likedIn(60);
        x.year(0, 60, 20);
        x.search(0, 0);
        x.tell(0, 1, true);
        x.which(1, 0);
        x.next(1);
        x.forget();
        x.count(7);
        x.count(12);
        x.tells(0, 0, 0);
        x.answers(0, 0);
        x.letter(0, 7);
        x.reader(0, 0);
    }
}
