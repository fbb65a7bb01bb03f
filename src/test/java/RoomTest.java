import java.lang.management.ManagementFactory;

/** All calls of one run live in one room, so calls must not make anew what can be used again. */
public final class RoomTest {
    public static void main(String[] args) {
        com.sun.management.ThreadMXBean threads = (com.sun.management.ThreadMXBean) ManagementFactory.getThreadMXBean();
        long id = Thread.currentThread().getId();
        long start = threads.getThreadAllocatedBytes(id);
        ShareHall x = new ShareHall();
        long made = threads.getThreadAllocatedBytes(id) - start;
        Desk.same("a new object is small", made < 200_000, true);
        start = threads.getThreadAllocatedBytes(id);
        for (int i = 0; i < 60; i++) {
            x.hall(4, i, 4);
            x.deal(-1, 32);
            x.type(0x453d452a463b3e6eL, 8);
            x.type(0x3b613a6e3b3e613bL, 8);
            x.compile();
            x.begin();
            x.tamper(0, 1, 3, 9);
            x.run(2000);
            x.party(0, 0);
        }
        long used = threads.getThreadAllocatedBytes(id) - start;
        Desk.same("calls make next to nothing", used < 20_000, true);
        Desk.same("and they did something", x.total(2) > 5000, true);
        start = threads.getThreadAllocatedBytes(id);
        ShareHall y = new ShareHall();
        y.put(0x0f0012000000L, 6);
        y.load();
        y.begin();
        for (int i = 0; i < 15; i++) {
            y.run(2000);
        }
        used = threads.getThreadAllocatedBytes(id) - start;
        Desk.same("fifteen thousand were put out", y.party(0, 4) + y.party(1, 4), 15000);
        Desk.same("what is put out is kept in rows that double", used < 700_000, true);
        Desk.end();
    }
}
