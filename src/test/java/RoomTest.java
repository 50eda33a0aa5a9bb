import java.lang.management.ManagementFactory;

/** All calls of a run live in one room: what an object takes is little, and no call takes more. */
public final class RoomTest {
    private static final long OBJECT_MOST = 400_000;
    private static final long CALLS_MOST = 4_000;
    private static final char[] SIGNS = "pa+qb<7|pc>0&qa=3".toCharArray();
    private static int answers;

    private static void dearCalls(WorkedBack x, int turn) {
        x.change(turn % 8, turn % 3, turn % 40);
        for (char sign : SIGNS) answers += x.say(sign);
        answers += x.fault() + (turn % 2 == 0 ? x.rule() : x.free() + x.wipe());
        answers += x.all(-1) + x.all(5) + x.ends(0, 0, 0) + x.must(0) + x.plain(0) + x.near(0) + x.doubt(0);
        answers += x.changed(0) + x.costs(0, 0, 0) + x.buy(0, 5, 5, 1) + x.settle(0) + x.hide(999, 0);
        answers += x.fits(77, 2) + x.judge(77, 0) + x.lies(77, 0, 7, 1) + x.needs(77, 7, 1);
        answers += x.image(turn % 2) + x.restore(turn % 2) + x.stand(turn % 3, (turn + 1) % 3);
        answers += x.stock(turn % 3, 2, turn) + x.about(0, 0) + x.told(0) + x.cost(5, 0, 0);
        answers += x.tear() + x.month(turn % 30, 3, 9, turn % 6, 3, turn % 5);
    }

    private static WorkedBack filled() {
        WorkedBack x = new WorkedBack();
        for (int m = 0; m < 8; m++) {
            x.month(5 + m, 9 - m, 3, m % 6, 1 + m % 3, 2);
            for (int t = 0; t < 3; t++) x.change(m, 6 + t, (m * 5 + t * 7) % 9);
        }
        return x;
    }

    public static void main(String[] args) {
        com.sun.management.ThreadMXBean bean = (com.sun.management.ThreadMXBean) ManagementFactory.getThreadMXBean();
        long id = Thread.currentThread().getId();
        for (int i = 0; i < 3; i++) dearCalls(filled(), i);
        bean.getThreadAllocatedBytes(id);
        long start = bean.getThreadAllocatedBytes(id);
        WorkedBack x = filled();
        long made = bean.getThreadAllocatedBytes(id);
        for (int turn = 0; turn < 100; turn++) dearCalls(x, turn);
        long called = bean.getThreadAllocatedBytes(id);
        System.out.println("an object takes " + (made - start) + " bytes, 100 rounds of calls " + (called - made)
                + " (" + answers % 7 + ")");
        if (made - start > OBJECT_MOST || called - made > CALLS_MOST) {
            System.out.println("that is more than is due");
            System.exit(1);
        }
    }
}
