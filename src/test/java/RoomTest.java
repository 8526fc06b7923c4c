import com.sun.management.ThreadMXBean;
import java.lang.management.ManagementFactory;

/** All calls of a run share one room, so a desk takes little of it, and only for what it keeps. */
public final class RoomTest {
    private static final long MOST_OF_A_NEW_DESK = 24_000;
    private static final long MOST_OF_A_FULL_DESK = 60_000;

    private static final Check check = new Check();
    private static final ThreadMXBean threads =
            (ThreadMXBean) ManagementFactory.getThreadMXBean();

    public static void main(String[] args) {
        newDesk();
        search();
        claims();
        check.end("RoomTest");
    }

    private static long taken() {
        return threads.getThreadAllocatedBytes(Thread.currentThread().getId());
    }

    private static void isAtMost(String what, long bytes, long most) {
        check.same(what + " takes " + bytes + " bytes, more than " + most, bytes > most ? 1 : 0, 0);
    }

    private static void newDesk() {
        new RefutationDesk();
        long before = taken();
        RefutationDesk desk = new RefutationDesk();
        isAtMost("a new desk", taken() - before, MOST_OF_A_NEW_DESK);
        check.same("state", desk.state(), RefutationDesk.SATURATED);
    }

    private static void search() {
        RefutationDesk desk = Desks.chain(15);
        long before = taken();
        for (int n = 0; n < 100; n++) {
            desk.run(50);
            desk.proof();
            desk.state();
            desk.figure(1);
        }
        isAtMost("a full search", taken() - before, MOST_OF_A_FULL_DESK);
        check.same("state", desk.state(), RefutationDesk.FULL);
    }

    private static void claims() {
        RefutationDesk desk = new RefutationDesk();
        Check.assume(desk, "!x!y|P(x,f(y))~P(y,f(x))");
        long text = Check.packed("P(x,f(y)");
        long more = Check.packed(")|~P(y,f");
        long rest = Check.packed("(x))");
        long before = taken();
        for (int n = 0; n < 24; n++) {
            desk.type(text);
            desk.type(more);
            desk.type(rest);
            desk.claim(-1, 0, 0, 0);
        }
        desk.type('P');
        for (int n = 0; n < 23; n++) {
            desk.print(true, n);
            desk.subsumes(0, 0);
        }
        isAtMost("24 lines", taken() - before, MOST_OF_A_FULL_DESK);
        check.same("lines", desk.figure(8), 24);
    }
}
