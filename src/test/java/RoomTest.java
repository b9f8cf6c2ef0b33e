import com.sun.management.ThreadMXBean;
import java.lang.management.ManagementFactory;

/** All calls of a run live in one room: only the constructor makes objects, and few of them. */
public final class RoomTest {
    private static final ThreadMXBean THREADS = (ThreadMXBean) ManagementFactory.getThreadMXBean();

    public static void main(String[] args) {
        Check check = new Check("RoomTest");
        useAll(new WeatherChess());
        long before = bytes();
        WeatherChess x = new WeatherChess();
        long made = bytes() - before;
        check.holds("a new object has " + made + " bytes, below 12000", made < 12000);
        WeatherChess[] all = new WeatherChess[20];
        for (int i = 0; i < all.length; i++) all[i] = i == 0 ? x : new WeatherChess();
        before = bytes();
        for (WeatherChess one : all) useAll(one);
        long more = bytes() - before;
        // what the machine itself makes while it compiles is not the program's, and is far below a byte a call
        check.holds("the calls made " + more + " bytes, below 1000", more < 1000);
        check.close();
    }

    private static long bytes() {
        return THREADS.getThreadAllocatedBytes(Thread.currentThread().getId());
    }

    private static void useAll(WeatherChess x) {
        // "turn 0;" and a fault
        x.feed(0x7475726e20303b20L);
        x.text();
        x.feed(-1);
        x.end(3);
        x.text();
        x.fault();
        for (int i = 0; i < 9; i++) x.square(i);
        for (int i = 0; i < 4; i++) x.piece(0, i);
        for (int i = 0; i < 7; i++) x.count(x.rule(i));
        for (int w = 0; w < 5; w++) x.move(w, x.odd(w));
        x.oil(0, 9);
        x.put(0, 1);
        x.steeple(0, true);
        x.weigh(1, 3);
        x.turn(0);
        x.keep(0);
        for (int n = 0; n < 4; n++) {
            x.chance(0, n, 1);
            x.byWind(1, n, 0);
            x.best(1, n);
            x.hope(n);
            x.fits(n);
            x.where(0, n);
            x.since(0, n, 10);
        }
        x.see(0, 1);
        x.forget(0);
        for (int i = 0; i < 3; i++) x.tell(i);
        x.blow(0);
        x.drop(0);
        x.gale(5, 60, 1);
        x.sheet(0, 0, 40);
        for (int i = 0; i < 40; i++) x.lay(0, i, i % 2 == 0 ? 4 : -4);
        x.read(0, 0, 0, 13);
        x.torn();
        x.go(4, -4);
        x.back(0);
    }
}
