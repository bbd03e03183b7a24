import com.sun.management.ThreadMXBean;
import java.lang.management.ManagementFactory;

/** All calls of a run live in one room: what is made, is made by constructors and by text alone, and is small. */
public final class RoomTest extends Dues {
    private static final int CALLS = 512;
    private static final int MOST_BYTES_OF_A_RUN = 100000;
    private static final ThreadMXBean THREADS = (ThreadMXBean) ManagementFactory.getThreadMXBean();

    // Answers are put together here, so that no call is left out for being looked at by nobody.
    private static int answers = 0;

    private interface Calls {
        int on(CathedralCoin coin, int i);
    }

    public static void main(String[] args) {
        fullIsFull();
        callsThatMakeNothing();
        runsOfTexts();
        due("calls were made", true, answers != 0);
        finish();
    }

    /** A full town: 8 FOLK, 4 TEXTS of the longest laws, 20 DEBTS, 8 SEEN, 30 STEPS. */
    private static CathedralCoin fullTown() {
        CathedralCoin coin = town(8);
        String sum = times(46, "1+") + "wet";
        for (int i = 0; i < 4; i++) {
            tell(coin, "rubs " + sum + ";toll 0" + times(60, "-1") + ";pay 1 of 3 from 0 to 1;pass 3;");
        }
        coin.by(1);
        for (int who = 0; who < 8; who++) {
            coin.grant(who, 90089 - who);
        }
        coin.pass(40);
        for (int i = 0; i < 20; i++) {
            coin.owes(i % 8, (i + 1 + i / 8) % 8, 100 + i);
        }
        for (int i = 0; i < 8; i++) {
            coin.seen(i);
        }
        return coin;
    }

    private static void fullIsFull() {
        sentence("a full town");
        CathedralCoin coin = fullTown();
        due("FOLK", 8, coin.about(0));
        due("TEXTS", 4, coin.about(5));
        due("STEPS", 30, coin.about(7));
        due("DEBTS", 20, coin.about(8));
        due("SEEN", 8, coin.about(9));
    }

    private static long madeBy(Calls calls) {
        CathedralCoin coin = fullTown();
        long ahead = THREADS.getCurrentThreadAllocatedBytes();
        int together = 0;
        for (int i = 0; i < CALLS; i++) {
            together += calls.on(coin, i);
        }
        long made = THREADS.getCurrentThreadAllocatedBytes() - ahead;
        answers += together;
        return made;
    }

    /** The first time the machine itself may make something (it loads classes), the second time it has them. */
    private static void dueNothing(String call, Calls calls) {
        madeBy(calls);
        due(call, 0, madeBy(calls));
    }

    private static void callsThatMakeNothing() {
        sentence("bytes made");
        dueNothing("folk", (coin, i) -> coin.folk(i % 10));
        dueNothing("weather", (coin, i) -> coin.weather(i % 11, i) ? 1 : 0);
        dueNothing("feed, end", (coin, i) -> coin.feed(i, i, i, i, i) + coin.end(0));
        dueNothing("a fifth text", (coin, i) -> coin.text());
        dueNothing("fault", (coin, i) -> coin.fault(i % 2));
        dueNothing("by", (coin, i) -> coin.by(i % 4) ? 1 : 0);
        dueNothing("grant", (coin, i) -> coin.grant(i % 8, 1));
        dueNothing("pay", (coin, i) -> coin.pay(i % 8, (i + 1) % 8, 1, 99));
        dueNothing("pass, back", (coin, i) -> coin.pass(99) + coin.back() + coin.image());
        dueNothing("pass", (coin, i) -> coin.pass(1));
        dueNothing("played", (coin, i) -> coin.played(i % 4));
        dueNothing("undo", (coin, i) -> coin.undo());
        dueNothing("marks, share", (coin, i) -> coin.marks(i % 8) + coin.share(i % 8, 1));
        dueNothing("owes", (coin, i) -> coin.owes(0, 1, i % 30));
        dueNothing("netted", (coin, i) -> coin.netted(i % 8 - 1, i % 3));
        dueNothing("married", (coin, i) -> coin.married(i % 9 - 1));
        dueNothing("bell", (coin, i) -> coin.bell(1000 + i, i % 8));
        dueNothing("cost", (coin, i) -> coin.cost(i % 8, i % 4, 60, true));
        dueNothing("best", (coin, i) -> coin.best(60, true));
        dueNothing("seen", (coin, i) -> coin.seen(i % 9 - 1));
        dueNothing("rubbed", (coin, i) -> coin.rubbed(i % 8, i % 9 - 1));
        dueNothing("image", (coin, i) -> coin.image());
        dueNothing("about", (coin, i) -> coin.about(i % 40));
    }

    /** A run of nothing but texts that are fed, and given up at their last TOKEN. */
    private static void dueSmallRun(String law) {
        int fed = 0;
        String text = law + times(300 - law.length(), " ");
        int[] bytes = new int[75];
        for (int i = 0; i < 300; i++) {
            bytes[i / 4] = bytes[i / 4] << 8 | text.charAt(i);
        }
        long ahead = THREADS.getCurrentThreadAllocatedBytes();
        CathedralCoin coin = new CathedralCoin();
        for (int i = 0; i < CALLS; i++) {
            if (fed == 75) {
                answers += coin.text();
                fed = 0;
            } else {
                coin.feed(bytes[fed], bytes[fed + 1], bytes[fed + 2], bytes[fed + 3], bytes[fed + 4]);
                fed += 5;
            }
        }
        long made = THREADS.getCurrentThreadAllocatedBytes() - ahead;
        due("a run of " + law + " makes " + made + " bytes: not too many", true, made < MOST_BYTES_OF_A_RUN);
    }

    private static void runsOfTexts() {
        sentence("bytes made");
        dueSmallRun("toll 1" + times(140, "+1") + " 1");
        dueSmallRun("toll 1" + times(70, "+1") + ";rubs 1" + times(70, "*1") + "; 1");
        dueSmallRun(times(24, "pass 1;") + "pass");
        dueSmallRun(times(150, "a "));
        long ahead = THREADS.getCurrentThreadAllocatedBytes();
        CathedralCoin coin = new CathedralCoin();
        for (int i = 0; i < CALLS; i++) {
            answers += i % 2 == 0 ? coin.text() : coin.back();
        }
        long made = THREADS.getCurrentThreadAllocatedBytes() - ahead;
        due("a run of empty texts makes " + made + " bytes: not too many", true, made < MOST_BYTES_OF_A_RUN);
    }
}
