import com.sun.management.ThreadMXBean;
import java.lang.management.ManagementFactory;

// A run of calls lives in one room: a new object is small enough, and no call of the dearest kinds makes anything.
public final class RoomTest {
    public static void main(String[] args) {
        ThreadMXBean threads = (ThreadMXBean) ManagementFactory.getThreadMXBean();
        use(new PulledCrystal());
        long ahead = threads.getThreadAllocatedBytes(Thread.currentThread().getId());
        PulledCrystal x = new PulledCrystal();
        long made = threads.getThreadAllocatedBytes(Thread.currentThread().getId()) - ahead;
        Due.is("a new object takes half a million bytes at most", made < 500000, true);
        Due.tape(x, "wide want - seen;gives 7;swirl 9");
        x.furnace();
        Due.tape(x, "pull 3;heat heat + 1");
        x.minder();
        ahead = threads.getThreadAllocatedBytes(Thread.currentThread().getId());
        for (int k = 0; k < 2; k++) {
            use(x);
        }
        made = threads.getThreadAllocatedBytes(Thread.currentThread().getId()) - ahead;
        Due.is("the calls make next to nothing: " + made, made < 20000, true);
        Due.done("RoomTest");
    }

    private static void use(PulledCrystal x) {
        x.begin(0, 0, 99999, 400, 5, 400, 9, 900, 20);
        x.grow(400);
        x.fault(300);
        x.want(0, 0, 1000000000, 0, 100, 9);
        x.slice(7, 5, 1000, 1000);
        x.ring(7, 400);
        x.image(1);
        x.melt(200);
        for (int what = 0; what < 13; what++) {
            x.count(what);
            x.row(7, what);
            x.much(5, what);
            x.parts(5, what);
            x.piece(0, what);
            x.choice(300, what);
            x.span(5, what);
            x.awry(10, what);
            x.tried(0, 300, 9, what);
            x.wander(0, 100, what);
            x.enough(5, 1000, 0, 1000000, what);
        }
        x.best(300);
        x.far(0, 100, 9000);
        x.cut();
        x.whose(100);
        x.why(100, 0);
        x.stripes(5, 0, 100, 10);
        x.holds();
        x.faults();
        x.back(1);
    }
}
