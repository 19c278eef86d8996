import java.lang.management.ManagementFactory;

/** All calls of a run live in one room: what they make is counted, by the machine's own count of bytes. */
public final class RoomTest {
    private static final int CALLS = 512;
    // The room holds 7.3 million fields and elements; an int has four bytes.
    private static final long ROOM = 4L * 7300000;
    private static final String WAY = "k(h>b&t<700|g>40&l<3);k(!(h=b)&m%3=d%3);k([h+b]*[g-l]/[t+1]>[m%7]*[s%11]|f=2&d>3);k(h/[b-10]>1);k(m%2=t%2)";

    public static void main(String[] args) {
        long objects = spent(RoomTest::manyObjects);
        Due.same("512 new objects: " + objects, objects < ROOM, true);
        long readings = spent(RoomTest::manyReadings);
        Due.same("a run of the dearest readings: " + readings, readings < ROOM / 20, true);
        long texts = spent(RoomTest::manyTexts);
        Due.same("a run of long texts: " + texts, texts < ROOM / 20, true);
        Due.end();
    }

    private static long spent(Runnable run) {
        com.sun.management.ThreadMXBean counter = (com.sun.management.ThreadMXBean) ManagementFactory.getThreadMXBean();
        run.run();
        long before = counter.getThreadAllocatedBytes(Thread.currentThread().getId());
        run.run();
        return counter.getThreadAllocatedBytes(Thread.currentThread().getId()) - before;
    }

    private static void manyObjects() {
        for (int i = 0; i < CALLS; i++) {
            new ScruffPaper().count(0);
        }
    }

    private static void manyReadings() {
        ScruffPaper x = new ScruffPaper();
        for (int i = 0; i < 10; i++) {
            x.source(i % 2 == 0, 100 * i, 30, i % 4, 127);
            Due.law(x, i, "h[x*11]%100+a(x>20|m%3<2);h[u+s+f]/[a+1]+50-a*2(1=1)");
        }
        Due.way(x, 0, WAY);
        Due.way(x, 1, WAY);
        for (int i = 0; i < 60; i++) {
            x.passed(0, 1, i, i + 29, i % 3);
            x.marks(1, i, i);
            x.beats(1, 2001, 0, 0);
            x.bound(400, i);
            x.pen(6, 1, 6);
            x.more(20, 20, 10, 1, 1);
            x.known(0, i);
        }
    }

    private static void manyTexts() {
        ScruffPaper x = new ScruffPaper();
        for (int i = 0; i < CALLS / 7; i++) {
            Due.way(x, i % 4, WAY);
        }
    }
}
