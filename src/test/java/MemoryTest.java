import java.lang.management.ManagementFactory;
import java.lang.reflect.Array;
import java.lang.reflect.Field;
import java.lang.reflect.Modifier;
import java.util.ArrayDeque;
import java.util.Collections;
import java.util.IdentityHashMap;
import java.util.Set;

/** Terms: all memory is the box's own, made once. */
public final class MemoryTest {
    /** The promised number; the room that all calls of a run share is counted for so many. */
    private static final int CALLS = 512;

    public static void main(String[] args) throws IllegalAccessException {
        int[] lengths = {64, 100, 256};
        for (int length : lengths) {
            isMadeOnce(length);
            isItsOwn(length);
        }
        callsMakeNothing();
        besideAnother();
        Due.end();
    }

    /** The tape, two channels and a frame, and little more: some hundreds of objects fit into one room. */
    private static void isMadeOnce(int length) throws IllegalAccessException {
        DownFrames x = new DownFrames(length);
        Set<Object> before = memory(x);
        Due.due("length " + length + ", objects and arrays are few", before.size() <= 20, true);
        Due.due("length " + length + ", elements are few", elements(before) <= 12000, true);
        mixedCalls(x, 0);
        Set<Object> after = memory(x);
        Due.due("length " + length + ", objects and arrays after the calls", after.size(), before.size());
        Due.due("length " + length + ", they are the same", before.containsAll(after), true);
    }

    private static void isItsOwn(int length) throws IllegalAccessException {
        Set<Object> both = memory(new DownFrames(length));
        both.retainAll(memory(new DownFrames(length)));
        Due.due("length " + length + ", what two objects share", both.size(), 0);
    }

    /** The least of some runs, for the machine may make something of its own now and then. */
    private static void callsMakeNothing() {
        if (!(ManagementFactory.getThreadMXBean() instanceof com.sun.management.ThreadMXBean machine)
            || !machine.isThreadAllocatedMemorySupported() || !machine.isThreadAllocatedMemoryEnabled()) {
            return;
        }
        long least = Long.MAX_VALUE;
        long thread = Thread.currentThread().getId();
        for (int run = 0; run < 10; run++) {
            DownFrames x = new DownFrames(64 + run);
            long before = machine.getThreadAllocatedBytes(thread);
            mixedCalls(x, run);
            least = Math.min(least, machine.getThreadAllocatedBytes(thread) - before);
        }
        Due.due("bytes that " + CALLS + " calls make, in hundreds", least / 100, 0);
    }

    /** Two objects used in turn answer as each does alone. */
    private static void besideAnother() {
        DownFrames one = new DownFrames(64);
        DownFrames other = new DownFrames(90);
        DownFrames oneAlone = new DownFrames(64);
        DownFrames otherAlone = new DownFrames(90);
        for (int i = 0; i < CALLS; i++) {
            call(one, i);
            call(other, 3 * i + 1);
        }
        for (int i = 0; i < CALLS; i++) {
            call(oneAlone, i);
        }
        for (int i = 0; i < CALLS; i++) {
            call(otherAlone, 3 * i + 1);
        }
        Due.dueSeen("beside another", one, Due.seen(oneAlone));
        Due.dueSeen("beside another", other, Due.seen(otherAlone));
    }

    private static void mixedCalls(DownFrames x, int from) {
        for (int i = 0; i < CALLS; i++) {
            call(x, from + i);
        }
    }

    /** Packets of 16 bytes to both channels, frames of each kind, and calls that are refused. */
    private static void call(DownFrames x, int i) {
        switch (i % 16) {
            case 0, 4 -> x.give(0x0801C0000009FFFFL, 8);
            case 1, 5 -> x.give(0x0123456789ABCDEFL, 8);
            case 2 -> x.send(0);
            case 6 -> x.send(1);
            case 3, 7, 8, 9, 10 -> x.frame(i);
            case 11 -> x.send(2);
            case 12 -> x.give(i, 9);
            case 13 -> x.byteAt(i);
            case 14 -> x.waiting(i % 3);
            default -> x.count(i % 7);
        }
    }

    /** The object, and every object and array that can be reached from it. */
    private static Set<Object> memory(Object from) throws IllegalAccessException {
        Set<Object> found = Collections.newSetFromMap(new IdentityHashMap<>());
        ArrayDeque<Object> open = new ArrayDeque<>();
        open.add(from);
        while (!open.isEmpty()) {
            Object next = open.remove();
            if (found.add(next)) {
                addParts(open, next);
            }
        }
        return found;
    }

    private static void addParts(ArrayDeque<Object> open, Object whole) throws IllegalAccessException {
        if (whole instanceof Object[] row) {
            for (Object part : row) {
                addPart(open, part);
            }
        }
        if (whole.getClass().isArray()) {
            return;
        }
        for (Field field : whole.getClass().getDeclaredFields()) {
            if (!Modifier.isStatic(field.getModifiers()) && !field.getType().isPrimitive()) {
                field.setAccessible(true);
                addPart(open, field.get(whole));
            }
        }
    }

    private static void addPart(ArrayDeque<Object> open, Object part) {
        if (part != null) {
            open.add(part);
        }
    }

    private static int elements(Set<Object> memory) {
        int elements = 0;
        for (Object one : memory) {
            elements += one.getClass().isArray() ? Array.getLength(one) : one.getClass().getDeclaredFields().length;
        }
        return elements;
    }
}
