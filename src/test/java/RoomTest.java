import java.lang.management.ManagementFactory;

/** All calls of a run live in one room: the dearest calls must make nothing anew. */
public final class RoomTest {
    // Twelve riders, most of them chancy, and long rules: all the runs that a call can make.
    private static String dear(int riders) {
        StringBuilder s = new StringBuilder("ride 9 9 9 9 9 9 9 9 9 9 9;");
        for (int i = 0; i < riders; i++) {
            s.append("rider ").append(i % 3).append(" 11 ").append(i % 2 == 0 ? "below " : "above ").append(i / 2)
                    .append(i < 10 ? " maybe 5;" : ";");
        }
        return s.append("picks hops*left-near*(new<3)+fare;fare hops*(deck+1)+seat;").toString();
    }

    public static void main(String[] args) {
        com.sun.management.ThreadMXBean threads = (com.sun.management.ThreadMXBean) ManagementFactory.getThreadMXBean();
        long self = Thread.currentThread().getId();
        for (int riders : new int[] {10, 12}) {
            run(riders);
            long before = threads.getThreadAllocatedBytes(self);
            run(riders);
            long bytes = threads.getThreadAllocatedBytes(self) - before;
            System.out.println("RoomTest: a run of 500 dear calls with " + riders + " riders takes " + bytes + " bytes");
            Check.same("a run stays small", bytes < 400000 ? 1 : 0, 1);
        }
        long before = threads.getThreadAllocatedBytes(self);
        for (int i = 0; i < 100; i++) {
            new TingDecks();
        }
        long bytes = (threads.getThreadAllocatedBytes(self) - before) / 100;
        System.out.println("RoomTest: a new object takes " + bytes + " bytes");
        Check.same("a new object stays small", bytes < 20000 ? 1 : 0, 1);
        Check.end("RoomTest");
    }

    private static void run(int riders) {
        TingDecks x = new TingDecks();
        Check.read(x, dear(riders));
        for (int i = 0; i < 24; i++) {
            x.hold(i % 12, i);
            x.obey(i % 2 - 1);
            x.sit(i % riders, i % 2, 9);
            x.most(0);
            x.soonest(7);
            x.likely(1, 0);
            x.mean(0);
            x.bell(i % 12, 0);
            x.flat();
            x.pace();
            x.week(i, 60, 0);
            x.dodge(i % riders, 0);
            x.head(i % 12, 0, 3);
            x.fits(0);
            x.game(3, 1, 0);
            x.door(2);
            x.two(0);
            x.best();
            x.undo();
            x.image();
            x.restore();
        }
    }
}
