import java.lang.management.ManagementFactory;

/** All calls of a run live in one room: only the constructor makes objects. */
public final class RoomTest {
    private static final String TEXT = "t900 7;" + "p0 20 5;p1 30 9;p2 25 40;p3 7 12;p4 12 3;p0 99 50;p3 80 1;"
        + "d0 1 9;d1 2 8;d2 3 7;d3 4 6;d4 5 5;d5 6 4;d6 0 3;d0 6 2;d6 5 1;";

    public static void main(String[] args) {
        com.sun.management.ThreadMXBean threads = (com.sun.management.ThreadMXBean) ManagementFactory.getThreadMXBean();
        SparrowChange warm = new SparrowChange();
        everyCall(warm);
        SparrowChange x = new SparrowChange();
        long before = threads.getCurrentThreadAllocatedBytes();
        long itself = threads.getCurrentThreadAllocatedBytes() - before;
        before = threads.getCurrentThreadAllocatedBytes();
        everyCall(x);
        long made = threads.getCurrentThreadAllocatedBytes() - before - itself;
        if (made > 0) {
            Check.fail("the calls made objects of " + made + " bytes");
        }
        before = threads.getCurrentThreadAllocatedBytes();
        SparrowChange another = new SparrowChange();
        made = threads.getCurrentThreadAllocatedBytes() - before - itself;
        if (made > 20000 || another.told(1) != 0) {
            Check.fail("the constructor made objects of " + made + " bytes");
        }
        Check.finish();
    }

    private static void everyCall(SparrowChange x) {
        Check.feed(x, TEXT);
        x.parish();
        x.fault();
        x.count(0, 100);
        x.pay(0, 1, 20);
        x.strew(2, 9);
        x.net(3, true);
        x.hawk(5, 5);
        x.hour(60);
        x.drift(60);
        x.undo();
        for (int what = 0; what <= 18; what++) {
            x.told(what);
            x.person(0, what);
            x.debt(0, what);
            x.trace(what);
        }
        x.hat(0, 100);
        x.most(0, 100, 0);
        x.kept(0);
        x.settled(1);
        x.toFloat(0);
        x.nets(9999, 24);
        x.calm(60, 99);
        x.watch(1);
        x.feel(1, 2, true);
        x.reach(0);
        x.reach(3);
        x.write(0, 1);
        x.judge();
        x.tear();
        x.seed(1);
        x.keep(0);
        x.goBack(0);
    }
}
