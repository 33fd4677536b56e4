import com.sun.management.ThreadMXBean;
import java.lang.management.ManagementFactory;

/** The room of a run is small: a new object takes little of it, and later calls take nothing. */
public final class RoomTest {
    private static final long ROOM_OF_AN_OBJECT = 40_000;
    private static final long ROOM_OF_THE_CALLS = 1_000;

    public static void main(String[] args) {
        Checks checks = new Checks("RoomTest");
        // The first time, the machine itself makes what its classes need.
        callAll(new CaissonSinker());
        allocated();

        long atFirst = allocated();
        CaissonSinker caisson = new CaissonSinker();
        long made = allocated();
        int sum = callAll(caisson);
        long called = allocated();

        checks.holds("a new object takes " + (made - atFirst) + " bytes", made - atFirst < ROOM_OF_AN_OBJECT);
        checks.holds("the calls take " + (called - made) + " bytes", called - made < ROOM_OF_THE_CALLS);
        checks.holds("the calls answer something", sum != 0);
        checks.finish();
    }

    private static long allocated() {
        ThreadMXBean threads = (ThreadMXBean) ManagementFactory.getThreadMXBean();
        return threads.getThreadAllocatedBytes(Thread.currentThread().getId());
    }

    private static int callAll(CaissonSinker x) {
        int sum = x.resize(7, 7);
        for (int i = 0; i < 12; i++) {
            sum += x.addLayer(20, i, 1) + x.setWeight(3000 + i) + x.setStiffness(100 + i);
            sum += x.addBoulder(4 * i, 5 + i, 9) + x.ground(i, 0) + x.boulder(i, 1) + x.state(i);
            sum += x.edge(i, 1) + x.bottom(8 + i) + x.surplus() + x.moment(0) + x.nextStep();
            sum += x.sideResistance(i) + x.stuckDepth() + x.ballastNeeded() + x.dig(8 + i, 9);
            sum += x.settle(3) + x.setBallast(i, i) + x.lubricate(i, 1) + x.blast(4 * i, 5) + x.pump(i);
            sum += x.record(i, 0) + x.wouldSettle(50, 3) + x.bestWell(3) + x.makePlan(200, 2);
            sum += x.plan(i, 0) + x.carryOut(2) + x.highSide() + x.undo() + x.undo();
        }
        for (int i = 0; i < "plan 4 4;layer 5 6 7;boulder 1 1 1 1;".length(); i++) {
            sum += x.appendCharacter("plan 4 4;layer 5 6 7;boulder 1 1 1 1;".charAt(i));
        }
        return sum + x.load() + x.clearText();
    }
}
