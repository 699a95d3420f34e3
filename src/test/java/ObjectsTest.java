import java.lang.management.ManagementFactory;

/** All calls of a run share one room: calls that answer make no objects at all. */
public final class ObjectsTest {
    private static final int ROUNDS = 2000;

    private static long made() {
        return ((com.sun.management.ThreadMXBean) ManagementFactory.getThreadMXBean()).getCurrentThreadAllocatedBytes();
    }

    private static int round(Mutualledger x) {
        int sum = x.night(1) + x.rings();
        for (int i = 0; i < 7; i++) {
            sum += x.balance(i) + x.balanceAnew(i) + x.limit(i) + x.goods(i) + (x.isIdle(i) ? 1 : 0);
            sum += x.owes(i, 7 - i) + x.frozen(i, 7 - i) + x.guaranteed(i, 7 - i);
        }
        sum += x.guarantee(0, 1, 5) + x.revoke(0, 1, 5) + x.fee(20);
        return sum + x.dispute(0) + x.settle(0, false) + x.ofTrade(0, 3);
    }

    public static void main(String[] args) {
        Mutualledger x = Check.circle(8);
        for (int i = 0; i < 56; i++) {
            x.trade(i % 8, (i + 1 + i / 8) % 8, 1 + i);
        }
        int sum = round(x);
        long before = made();
        for (int i = 0; i < ROUNDS; i++) {
            sum += round(x);
        }
        x.leave(3);
        long perRound = (made() - before) / ROUNDS;
        Check.due("bytes that a round of calls makes, the measuring's own left out", perRound, 0);
        Check.due("something was answered", sum != 0, true);
        Check.end("ObjectsTest");
    }
}
