import java.lang.management.ManagementFactory;

/** A run lives in one room: an object is small, and calls on it make nothing new. */
public final class RoomTest {
    private static final com.sun.management.ThreadMXBean THREADS =
            (com.sun.management.ThreadMXBean) ManagementFactory.getThreadMXBean();

    private static long sum;

    public static void main(String[] args) {
        String text = "man m 3;man n 7;man o 0;bottle a m n 0 10 9;bottle b n o 0 20 8;bottle c o n 0 30 7;"
                + "bottle d m n 1 10 9;bottle e n o 1 20 8;need m 3 0 199;need n 5 0 199;need o 7 100 199;thunder 60;"
                + "law ages hot+load*2-year/3;law creep not(cork>8 and force<9);law burst force+hated>30;";
        TemperCellar x = new TemperCellar();
        byte[] bytes = text.getBytes(java.nio.charset.StandardCharsets.ISO_8859_1);
        callAll(x, bytes);
        callAll(x, bytes);
        long before = made();
        long nothing = made() - before;
        before = made();
        for (int i = 0; i < 10; i++) {
            callAll(x, bytes);
        }
        long calls = made() - before - nothing;
        Due.due("bytes that calls make: " + calls + ", due are none to speak of", calls < 10_000, true);
        before = made();
        sum += new TemperCellar().count(0);
        long object = made() - before - nothing;
        Due.due("bytes of an object: " + object + ", due are 30000 at most", object < 30_000, true);
        System.out.println("checksum " + sum);
        Due.end();
    }

    private static long made() {
        return THREADS.getThreadAllocatedBytes(Thread.currentThread().getId());
    }

    private static void callAll(TemperCellar x, byte[] bytes) {
        Due.feed(x, bytes);
        sum += x.text(bytes.length) + x.fault(0) + x.named(0, 7) + x.bottle(0, 3) + x.man(0, 2) + x.need(0, 4) + x.bin(0);
        sum += x.law(0, 0) + (x.rack(0, 2) ? 1 : 0) + x.keep() + x.go(2) + x.seal(1) + x.open(2) + x.ahead(9, 0, 0);
        sum += x.firstOff(1) + x.chain(0) + x.racking(20, 4) + x.serve(1) + x.served() + x.pour(0, 199) + x.ripe(0, 50);
        sum += x.dowry(0, 1) + x.ring() + x.rests(0, 1) + x.rest(0, 1, 0) + x.lasts(0, 5, 1) + x.see(5, 0, true);
        sum += x.out(0) + (x.known(-1) ? 1 : 0) + x.corks(0) + x.chance(5, 20, 1) + x.tried(3, 0, 30) + x.undo();
        sum += x.back() + x.count(4);
    }
}
