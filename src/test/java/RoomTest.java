import java.lang.management.ManagementFactory;

/** What a run makes must fit one room: almost all calls make nothing at all. */
public final class RoomTest {
    private static final com.sun.management.ThreadMXBean ROOM =
        (com.sun.management.ThreadMXBean) ManagementFactory.getThreadMXBean();

    public static void main(String[] args) {
        Due.test("Room: calls make nothing", RoomTest::calls);
        Due.test("Room: an object is small", RoomTest::objects);
        Due.end();
    }

    private static void calls() {
        NineDown x = Due.told(Due.FIVE);
        for (int warm = 0; warm < 3; warm++) {
            round(x);
        }
        long before = ROOM.getThreadAllocatedBytes(Thread.currentThread().getId());
        for (int i = 0; i < 100; i++) {
            round(x);
        }
        long each = (ROOM.getThreadAllocatedBytes(Thread.currentThread().getId()) - before) / 100;
        // the count itself may make a little
        Due.due("bytes made by a round of calls (" + each + ") are none", each <= 8 ? 1 : 0, 1);
    }

    private static void objects() {
        long before = ROOM.getThreadAllocatedBytes(Thread.currentThread().getId());
        NineDown[] many = new NineDown[100];
        for (int i = 0; i < 100; i++) {
            many[i] = new NineDown();
        }
        long one = (ROOM.getThreadAllocatedBytes(Thread.currentThread().getId()) - before) / 100;
        Due.due("bytes of an object (" + one + ") are at most 10000", one <= 10000 && many[99].status() == 0 ? 1 : 0, 1);
    }

    /** Every call but feed and yard: a lifter each, as yard() reads it, is all that is made. */
    private static long round(NineDown x) {
        long sum = x.row(0, 1, 40) + x.set(0, 0, 0) + x.set(0, 1, 9) + x.copy(0, 0, 0, 2, 8) + x.row(1, 0, 3) + x.drop(1);
        sum += x.lift(1, 0) + x.loosen(2) + x.fall(0) + x.space(1, 5) + x.undo() + x.undo() + x.undo() + x.undo();
        sum += x.bike(0, 3) + x.hold(0, 0) + x.takes(0, 0, 0) + x.stand(3) + x.fault();
        sum += x.soonest(15, 1) + x.gentlest(15, 2) + x.never(7) + x.fetch(1) + x.layer(2) + x.fell(0, 1);
        sum += x.first(0, 0) + x.widen(1, 1) + x.plan(0, 0, 40, 0) + x.who(1, 0, 0, 1) + x.seen(3, 9, 4, 0);
        sum += x.drawn(60, 7, 0) + x.image(0) + x.restore(0) + x.kind(0) + x.as(0, 1) + x.ask(1, 0) + x.trace(3);
        return sum + x.count(0) + x.status();
    }
}
