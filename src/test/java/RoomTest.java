import java.lang.management.ManagementFactory;

/** What a run makes: an object of some 150 objects and arrays, and nothing by its calls. */
public final class RoomTest {
    private static final com.sun.management.ThreadMXBean THREADS =
        (com.sun.management.ThreadMXBean) ManagementFactory.getThreadMXBean();

    public static void main(String[] args) {
        callAll(prepared());
        WireDigs[] objects = new WireDigs[25];
        for (int i = 0; i < objects.length; i++) {
            objects[i] = prepared();
        }
        long begin = THREADS.getCurrentThreadAllocatedBytes();
        for (WireDigs x : objects) {
            callAll(x);
        }
        long calls = THREADS.getCurrentThreadAllocatedBytes() - begin;
        Check.dueThat("calls make nothing, but made bytes: " + calls, calls < 4096);
        begin = THREADS.getCurrentThreadAllocatedBytes();
        new WireDigs();
        long object = THREADS.getCurrentThreadAllocatedBytes() - begin;
        Check.dueThat("an object is small, but has bytes: " + object, object < 65536);
        Check.finish();
    }

    private static WireDigs prepared() {
        WireDigs x = Scenes.gate(0, 100, 0, 100);
        Scenes.typeAll(x, "l0;r0;l1;w1;r1;d0;d1;a0;h;r1;");
        return x;
    }

    /** Makes some 450 calls: an object has 512. */
    private static void callAll(WireDigs x) {
        for (int i = 0; i < 19; i++) {
            x.set(1, 0);
            x.block(0, 1);
            x.block(0, 0);
            x.net(1, 2, 3, 0, 0);
            x.give(0, 1);
            x.cellOf(5);
            x.bestOrder(-1);
            x.lay(0);
            x.cost(1, 1);
            x.price(1);
            x.victims(1);
            x.routeAt(1, 1, 4);
            x.dig(1);
            x.appeal(0);
            x.docketAt(0);
            x.hear();
            x.rip(0);
            x.pass(1);
            x.count(9);
            x.wronged();
            x.undo();
            x.fault(0);
            x.play();
        }
    }
}
