import java.lang.management.ManagementFactory;

/** All calls of one run live in one room: calls that throw nothing make no objects. */
public final class RoomTest {
    public static void main(String[] args) {
        com.sun.management.ThreadMXBean bean =
                (com.sun.management.ThreadMXBean) ManagementFactory.getThreadMXBean();
        bean.getCurrentThreadAllocatedBytes();
        ClockLots x = Check.loaded("Ls022s132s215b123b092b074b201b049v00040v01035v02090v10022v20050q001q011w2");
        long sum = 0;
        long before = bean.getCurrentThreadAllocatedBytes();
        for (int i = 0; i < 512; i++) {
            sum += dearCalls(x, i);
        }
        long bytes = bean.getCurrentThreadAllocatedBytes() - before;
        Check.due("at most some KiB made in 512 rounds of calls (1 if so)", bytes < 65536 ? 1 : bytes, 1);
        Check.due("the sum is used", sum == Long.MIN_VALUE ? 1 : 0, 0);
        Check.end();
    }

    private static long dearCalls(ClockLots x, int i) {
        long sum = x.best() + x.gets(0) + x.pays(1) + x.oneMore(i % 3) + x.leastMissed() + x.wouldAsk(0, 1);
        sum += x.roundsLeft() + x.endPrice(0) + x.runScript(3, 200003000090000L) + x.simulate(i, 99);
        sum += x.bid(i % 5) + x.value(1, 1, i) + x.errorPosition() + x.save(i % 2);
        sum += i % 2 == 0 ? x.undo() : x.restore(i % 2);
        return sum + x.load();
    }
}
