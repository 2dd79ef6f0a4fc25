import java.lang.management.ManagementFactory;
import java.util.List;

/** Calls make no objects of their own, and none throws, whatever it is given. */
public final class RoomTest {
    private static final int[] WILD = {Integer.MIN_VALUE, Integer.MIN_VALUE + 1, -1000, -15, -2, -1, 0, 1, 2, 6, 7, 8,
        10, 60, 61, 66, 99, 100, 120, 255, 256, 1000, Integer.MAX_VALUE - 1, Integer.MAX_VALUE};

    public static void main(String[] args) {
        for (int v : WILD) {
            for (int w : WILD) wild(v, w);
        }
        makesNothing();
        Check.end("RoomTest");
    }

    private static LeftByLast full() {
        LeftByLast x = new LeftByLast();
        for (int t = 0; t < 8; t++) x.thing(5 + 3 * t);
        for (int k = 0; k < 7; k++) {
            x.customer(99 - k, 1 + k % 2);
            x.mend(k, 2, 4);
            for (int t = 0; t < 8; t++) x.mend(10 * k + t, 3, (k * 37 + t * 53) % 100);
        }
        x.mend(0, 4, 2);
        return x;
    }

    private static void wild(int v, int w) {
        LeftByLast x = full();
        for (int u : List.of(v, w, 1)) {
            x.customers(u, v, w);
            x.mend(v, u, w);
            x.drawn(v, w, u);
            x.act(u, v, w);
            x.row(u, v, w);
            x.put(u, v, w);
            x.shift(v, u, w, v, w);
            x.shift(0, v, 1, w, u);
        }
        x.thing(v);
        x.customer(v, w);
        x.of(v, w);
        x.swap(v);
        x.feed(v);
        x.law();
        x.buys(v);
        x.day(v);
        x.change(v);
        x.place(v);
        x.friends(v);
        x.nephew(v);
        x.price(v);
        x.enough(v);
        x.led(v, w);
        x.judge(v);
        x.body(v);
        x.trace(v);
        x.keep(v, w);
        x.element(v, w);
        x.taken(v, w);
        Check.due("count(" + v + ")", x.count(v) >= -1 ? 1 : 0, 1);
    }

    private static void makesNothing() {
        com.sun.management.ThreadMXBean threads = (com.sun.management.ThreadMXBean) ManagementFactory.getThreadMXBean();
        LeftByLast x = full();
        Texts.law(x, "(p<w)*(x-p)?(w*3-x*2)/(n+1)+(k=n);c>p*2?-(p%7)+x;!(n>3)|(w=x)&p");
        Texts.bytes(x, 0, -1, -1, -1);
        Texts.bytes(x, 1, 9, 1, 1);
        dearCalls(x);
        long id = Thread.currentThread().getId();
        long before = threads.getThreadAllocatedBytes(id);
        long nothing = threads.getThreadAllocatedBytes(id) - before;
        before = threads.getThreadAllocatedBytes(id);
        for (int i = 0; i < 3; i++) dearCalls(x);
        long made = threads.getThreadAllocatedBytes(id) - before - nothing;
        Check.due("bytes made by calls, " + made + ", are next to none", made < 2000 ? 1 : 0, 1);
    }

    private static void dearCalls(LeftByLast x) {
        x.order(0, -1);
        x.order(2, 3);
        x.whose(0);
        x.judge(0);
        x.change(1);
        x.place(3);
        x.friends(62);
        x.nephew(0);
        x.price(4);
        x.enough(5);
        x.riseFor();
        x.drawn(5, 50, -1);
        x.customers(1, 0, 1);
        x.image();
        x.visit();
        x.mend(3, 0, x.of(3, 0) == 9 ? 10 : 9);
        x.undo();
        x.redo();
        x.back();
        x.evening();
        x.feed('n');
        x.law();
        x.act(0, 3, 5);
        x.row(2, 3, 50);
        x.shift(2, 0, 2, 1, 40);
    }
}
