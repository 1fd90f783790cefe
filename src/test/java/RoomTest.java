import com.sun.management.ThreadMXBean;
import java.lang.management.ManagementFactory;
import java.lang.reflect.Array;
import java.lang.reflect.Field;
import java.lang.reflect.Modifier;
import java.util.ArrayDeque;
import java.util.Collections;
import java.util.IdentityHashMap;
import java.util.Set;

/**
 * The room that all calls of one run live in: some 600,000 objects and arrays with 7.3 million fields and
 * elements. No call makes an object, so that a run fits in even if each of its calls made a new PileMaps.
 */
public final class RoomTest {
    private static final long MOST_OBJECTS = 600000;
    private static final long MOST_ELEMENTS = 7300000;
    private static final int CALLS = 512;
    private static final int RUNS = 60;
    /** So many bytes has an object without a field. */
    private static final int SMALLEST = 16;
    /** Each sign, each bracket and each kind of a factor, in as long a text as there may be. */
    private static final String LONGEST = "F=((((A~^9{0,1,15}.B)~/C.D)^2/E)~{2,3,4,5,6,7,8,9,10}.F/A~)~";

    private long objects = 0;
    private long elements = 0;

    public static void main(String[] args) throws Exception {
        PileMaps reader = new PileMaps();
        write(reader, LONGEST);
        Check.due("the text is as long as it can be", reader.count(6), 60);
        Check.due("and has no fault", reader.assign() >= 0);
        RoomTest fresh = new RoomTest();
        fresh.count(new PileMaps());
        boolean objectsFit = CALLS * fresh.objects <= MOST_OBJECTS;
        Check.due("a new one for each call of a run, objects of each: " + fresh.objects, objectsFit);
        boolean elementsFit = CALLS * fresh.elements <= MOST_ELEMENTS;
        Check.due("a new one for each call of a run, elements of each: " + fresh.elements, elementsFit);
        PileMaps used = new PileMaps();
        run(used, 0);
        RoomTest after = new RoomTest();
        after.count(used);
        Check.due("objects of one that is used", after.objects, fresh.objects);
        Check.due("its elements", after.elements, fresh.elements);
        callsMakeNothing();
        Check.end("RoomTest");
    }

    /** Counts what can be reached from an object. */
    private void count(Object first) throws IllegalAccessException {
        Set<Object> met = Collections.newSetFromMap(new IdentityHashMap<>());
        ArrayDeque<Object> open = new ArrayDeque<>();
        open.add(first);
        while (!open.isEmpty()) {
            Object object = open.remove();
            if (met.add(object)) {
                objects++;
                parts(object, open);
            }
        }
    }

    private void parts(Object object, ArrayDeque<Object> open) throws IllegalAccessException {
        if (object.getClass().isArray()) {
            elements += Array.getLength(object);
            for (int i = 0; i < Array.getLength(object) && object instanceof Object[]; i++) {
                addTo(open, Array.get(object, i));
            }
            return;
        }
        for (Field field : object.getClass().getDeclaredFields()) {
            if (!Modifier.isStatic(field.getModifiers())) {
                elements++;
                field.setAccessible(true);
                addTo(open, field.getType().isPrimitive() ? null : field.get(object));
            }
        }
    }

    private static void addTo(ArrayDeque<Object> open, Object object) {
        if (object != null) {
            open.add(object);
        }
    }

    private static void callsMakeNothing() {
        ThreadMXBean machine = (ThreadMXBean) ManagementFactory.getThreadMXBean();
        PileMaps[] all = new PileMaps[RUNS];
        for (int i = 0; i < RUNS; i++) {
            all[i] = new PileMaps();
        }
        // so that what the machine itself makes at a first call is not counted
        run(new PileMaps(), 0);
        long thread = Thread.currentThread().getId();
        machine.getThreadAllocatedBytes(thread);
        long before = machine.getThreadAllocatedBytes(thread);
        for (int i = 0; i < RUNS; i++) {
            run(all[i], i);
        }
        long bytes = machine.getThreadAllocatedBytes(thread) - before;
        // some, if the machine itself makes them, but fewer than one object a run would take
        Check.due("bytes made by " + RUNS + " runs: " + bytes, bytes < RUNS * SMALLEST);
    }

    private static int write(PileMaps x, String text) {
        x.clearText();
        for (int i = 0; i < text.length(); i++) {
            x.type(text.charAt(i));
        }
        return text.length() + 1;
    }

    private static void run(PileMaps x, int number) {
        int calls = 0;
        for (int map = 0; map < 6; map++) {
            calls += write(x, "0>1,1>2,2>3,3>-,4>4,15>0,14>13,13>12") + 2;
            x.push(map);
            x.push(map);
        }
        calls += write(x, LONGEST);
        for (int i = number; calls < CALLS; calls++, i++) {
            int map = i % 6;
            int key = i / 28 % 16;
            switch (i % 28) {
                case 0: x.assign(); break;
                case 1: x.gives(key); break;
                case 2: x.push(map); break;
                case 3: x.turn(map, 1, i % 3 == 0); break;
                case 4: x.lift(map, 0, 1); break;
                case 5: x.setEntry(map, 0, key, i % 18); break;
                case 6: x.probes(63); break;
                case 7: x.hide(map, 63); break;
                case 8: x.hidden(3); break;
                case 9: x.hidden(4); break;
                case 10: x.hidden(2); break;
                case 11: x.split(key, 0); break;
                case 12: x.ask(key); break;
                case 13: x.keep(); break;
                case 14: x.restore(); break;
                case 15: x.undo(); break;
                case 16: x.setRule(i % 3); break;
                case 17: x.get(map, key); break;
                case 18: x.tells(map, key); break;
                case 19: x.map(map, i % 9); break;
                case 20: x.layer(map, 0, i % 4); break;
                case 21: x.entry(map, 0, key); break;
                case 22: x.follow(map, key, i % 3); break;
                case 23: x.after(map, key, 1000000); break;
                case 24: x.differ(map, 0); break;
                case 25: x.count(i % 7); break;
                case 26: x.flatten(map); break;
                default: x.pop(map);
            }
        }
    }
}
