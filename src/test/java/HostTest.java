import java.lang.management.ManagementFactory;
import java.lang.reflect.InvocationTargetException;

/** What the Java machine sees: no call throws, whatever its numbers are; the same calls have the same answers; room. */
public final class HostTest {
    private static final int RUNS = 3000;
    /** Of one call: the dearest is a SHEET of 40 items, 40 longs with their array's and their SHEET's heads. */
    private static final long MOST_BYTES = 400, MOST_BYTES_TOLD = 8, MOST_BYTES_MADE = 8192;
    /** With those that make it ready, and two calls at a time, an object is asked less than 512 times. */
    private static final int TIMES = 240;
    private static int wrong = 0;

    private interface Call {
        long of(SteerBench x, int i);
    }

    private HostTest() {
    }

    public static void main(String[] args) throws Exception {
        anyCalls();
        room();
        System.out.println(wrong == 0 ? "no call throws, and all take little room" : wrong + " faults");
        if (wrong != 0) System.exit(1);
    }

    private static void fault(String what) {
        wrong++;
        if (wrong <= 20) System.out.println(what);
    }

    // ---- any numbers in any state

    private static void anyCalls() throws IllegalAccessException {
        for (int run = 0; run < RUNS; run++) {
            AnyCalls calls = new AnyCalls(run);
            SteerBench one = new SteerBench(), two = new SteerBench();
            for (int i = 0; i < Bench.MOST_CALLS; i++) {
                calls.next();
                try {
                    if (calls.answerOf(one) != calls.answerOf(two)) fault(calls.text() + " answered two ways");
                } catch (InvocationTargetException thrown) {
                    fault(calls.text() + " threw " + thrown.getCause());
                }
            }
        }
    }

    // ---- room

    private static void room() {
        if (!(ManagementFactory.getThreadMXBean() instanceof com.sun.management.ThreadMXBean bean) || !bean.isThreadAllocatedMemorySupported()) {
            System.out.println("this machine does not count what is made: room is not tested");
            return;
        }
        room(bean, "new SteerBench()", MOST_BYTES_MADE, (x, i) -> new SteerBench().count(0));
        roomOfMakers(bean);
        roomOfTellers(bean);
    }

    private static SteerBench ready() {
        SteerBench x = new SteerBench();
        x.machine(0, 2, 4);
        x.set(0, 0, 0, 0, 3);
        x.set(0, 0, 1, 0, 2);
        x.set(0, 1, 0, 0, 1);
        x.set(0, 2, 1, 0, 1);
        x.part(0, 3);
        x.machine(0, 1, 4);
        x.write(0);
        x.act(1, 2, 5);
        x.sheet(0, 2, 40);
        x.sheet(1, 2, 40);
        return x;
    }

    private static void roomOfMakers(com.sun.management.ThreadMXBean bean) {
        room(bean, "machine", MOST_BYTES, (x, i) -> x.machine(1, 3, 4) + x.drop());
        room(bean, "series", MOST_BYTES, (x, i) -> x.series(1, 2) + x.drop());
        room(bean, "side", MOST_BYTES, (x, i) -> x.side(1, 2) + x.drop());
        room(bean, "back", MOST_BYTES, (x, i) -> x.back(0, 1) + x.drop());
        room(bean, "part", MOST_BYTES, (x, i) -> x.part(0, 3) + x.drop());
        room(bean, "sheet", MOST_BYTES, (x, i) -> x.sheet(i % 4, i % 3, 40));
    }

    private static void roomOfTellers(com.sun.management.ThreadMXBean bean) {
        room(bean, "set", MOST_BYTES_TOLD, (x, i) -> x.set(0, 1, 1, 0, i % 3));
        room(bean, "machineTold", MOST_BYTES_TOLD, (x, i) -> x.machineTold(1, i % 8));
        room(bean, "table", MOST_BYTES_TOLD, (x, i) -> x.table(1, 0, i % 2, 1));
        room(bean, "own", MOST_BYTES_TOLD, (x, i) -> x.own(1, 1, i % 3));
        room(bean, "pulse", MOST_BYTES_TOLD, (x, i) -> x.pulse(1, i % 9, 1));
        room(bean, "run", MOST_BYTES_TOLD, (x, i) -> x.run(1, 5, i * i % 117649, 0));
        room(bean, "like", MOST_BYTES_TOLD, (x, i) -> x.like(0, 1));
        room(bean, "gain", MOST_BYTES_TOLD, (x, i) -> x.gain(1, i % 100, 1, 0, 1, 0));
        room(bean, "soonest", MOST_BYTES_TOLD, (x, i) -> x.soonest(1, i % 9, 1, 0));
        room(bean, "energy", MOST_BYTES_TOLD, (x, i) -> x.energy(1, i % 2, 1, 0));
        room(bean, "write", MOST_BYTES_TOLD, (x, i) -> x.write(i % 2));
        room(bean, "row", MOST_BYTES_TOLD, (x, i) -> x.row(i % 12));
        room(bean, "forge", MOST_BYTES_TOLD, (x, i) -> x.forge(i % 11, i));
        room(bean, "check", MOST_BYTES_TOLD, (x, i) -> x.check(1));
        room(bean, "act", MOST_BYTES_TOLD, (x, i) -> x.act(1, 2, i));
        room(bean, "trace", MOST_BYTES_TOLD, (x, i) -> x.trace(i % 14));
        room(bean, "count", MOST_BYTES_TOLD, (x, i) -> x.count(i % 4));
        room(bean, "cell", MOST_BYTES_TOLD, (x, i) -> x.cell(i % 4, i % 40, i));
        room(bean, "copy", MOST_BYTES_TOLD, (x, i) -> x.copy(0, 0, 1, 0, 40));
        room(bean, "lay", MOST_BYTES_TOLD, (x, i) -> x.lay(0, 1, 2, i % 30));
        room(bean, "taken", MOST_BYTES_TOLD, (x, i) -> x.taken(1, i % 4));
    }

    /** The first round brings in what the machine itself needs once. */
    private static void room(com.sun.management.ThreadMXBean bean, String name, long most, Call call) {
        long sum = 0, bytes = 0;
        for (int round = 0; round < 2; round++) {
            SteerBench x = ready();
            long before = bean.getThreadAllocatedBytes(Thread.currentThread().getId());
            for (int i = 0; i < TIMES; i++) sum += call.of(x, i);
            bytes = bean.getThreadAllocatedBytes(Thread.currentThread().getId()) - before;
        }
        if (bytes > most * TIMES) fault(name + " takes " + bytes / TIMES + " bytes a call, " + most + " are enough (" + sum + ")");
    }
}
