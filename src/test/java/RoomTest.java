import com.sun.management.ThreadMXBean;
import java.lang.management.ManagementFactory;
import java.lang.reflect.Array;
import java.lang.reflect.Field;
import java.lang.reflect.Modifier;
import java.util.ArrayDeque;
import java.util.Collections;
import java.util.Deque;
import java.util.IdentityHashMap;
import java.util.Set;

/**
 * The room that an object takes: a run of calls has some 600,000 objects and arrays and 7.3 million fields and elements
 * in all. An object is made of a few hundred, and its calls, but for the first keep() of each slot, make none.
 */
public final class RoomTest {
    private static final int MOST_OBJECTS = 400;
    private static final int MOST_ELEMENTS = 6000;
    private static final int ROUNDS = 10;
    /** What the machine itself may take on the way: less than an object in each call would take. */
    private static final int BYTES_OVERLOOKED = 5000;

    private static final Check CHECK = new Check("RoomTest");

    private int objects;
    private int elements;

    private RoomTest(SealedBallots x) throws IllegalAccessException {
        Set<Object> seen = Collections.newSetFromMap(new IdentityHashMap<>());
        Deque<Object> left = new ArrayDeque<>();
        left.add(x);
        while (!left.isEmpty()) {
            Object object = left.remove();
            if (seen.add(object)) {
                objects++;
                lookInto(object, left);
            }
        }
    }

    public static void main(String[] args) throws IllegalAccessException {
        roomOfAnObject();
        roomOfCalls();
        CHECK.end();
    }

    private void lookInto(Object object, Deque<Object> left) throws IllegalAccessException {
        if (object.getClass().isArray()) {
            elements += Array.getLength(object);
            for (int i = 0; object instanceof Object[] && i < Array.getLength(object); i++) {
                add(Array.get(object, i), left);
            }
            return;
        }
        for (Field field : object.getClass().getDeclaredFields()) {
            if (!Modifier.isStatic(field.getModifiers())) {
                elements++;
                field.setAccessible(true);
                if (!field.getType().isPrimitive()) {
                    add(field.get(object), left);
                }
            }
        }
    }

    private static void add(Object object, Deque<Object> left) {
        if (object != null && !(object instanceof String) && !(object instanceof Enum)) {
            left.add(object);
        }
    }

    private static void roomOfAnObject() throws IllegalAccessException {
        SealedBallots x = new SealedBallots();
        x.keep(0);
        x.keep(1);
        RoomTest first = new RoomTest(x);
        CHECK.isTrue("objects, " + first.objects, first.objects <= MOST_OBJECTS);
        CHECK.isTrue("fields and elements, " + first.elements, first.elements <= MOST_ELEMENTS);
        for (int round = 0; round < ROUNDS; round++) {
            eachCall(x);
        }
        RoomTest later = new RoomTest(x);
        CHECK.is("objects after the calls", later.objects, first.objects);
        CHECK.is("fields and elements after the calls", later.elements, first.elements);
    }

    /** Measured a second time, when all that a first use loads is there. */
    private static void roomOfCalls() {
        roomOfOneRun();
        long bytes = roomOfOneRun();
        CHECK.isTrue("bytes that the calls take, " + bytes, bytes <= BYTES_OVERLOOKED);
    }

    private static long roomOfOneRun() {
        SealedBallots x = new SealedBallots();
        x.keep(0);
        x.keep(1);
        long before = bytesTaken();
        for (int round = 0; round < ROUNDS; round++) {
            eachCall(x);
        }
        return bytesTaken() - before;
    }

    /** All bytes that this thread has taken; 0 at all times on a machine that does not count them. */
    private static long bytesTaken() {
        return ManagementFactory.getThreadMXBean() instanceof ThreadMXBean counts
                && counts.isThreadAllocatedMemorySupported()
                        ? counts.getThreadAllocatedBytes(Thread.currentThread().getId()) : 0;
    }

    /** Every call of the face, some 50 in all, of which none throws. */
    private static void eachCall(SealedBallots x) {
        // "office replica 1 1; replica 2 2; give;": the deed at its end is refused
        x.append(0x6F666669, 0x63652072, 0x65706C69, 0x63612031, 0x20313B20);
        x.append(0x7265706C, 0x69636120, 0x3220323B, 0x20676976, 0x653B2020);
        x.load();
        x.append(0x6F666669, 0x63652072, 0x65706C69, 0x63612031, 0x20313B20);
        x.append(0x7265706C, 0x69636120, 0x3220323B, 0x20676976, 0x653B2020);
        x.truncate(33);
        x.load();
        x.call(0);
        x.vote(0, 1, 11);
        x.seal(1, x.sealFor(1, 12, 1));
        x.close();
        x.canWin(1);
        x.nonceFor(0, 1);
        x.breakSeal(0, 1, 11);
        x.breakSeal(1, 0, 12);
        x.count();
        x.why(0, 0);
        x.why(1, 1);
        x.recount(0);
        x.count();
        questions(x);
        x.giveUp();
        x.setUp(0, false);
        x.setLink(0, 1, false);
        x.setFresh(0, 7);
        x.set(0, 1);
        x.undo();
        x.keep(0);
        x.restore(1);
        x.keep(1);
    }

    private static void questions(SealedBallots x) {
        x.office(15);
        x.replica(0, 9);
        x.isLinked(0, 1);
        x.outcome(0, 1);
        x.ahead();
        x.aheadIf(1, 0);
        x.wouldSpoil(0, 1);
        x.callers();
        x.vital();
        x.gap();
        x.turnout();
        x.meanAge();
        x.writeVotes();
        x.reportByte(0);
    }
}
