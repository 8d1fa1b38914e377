import java.lang.management.ManagementFactory;

/**
 * The room: one object and the dearest calls on it stay far below 600,000 objects and 7.3 million elements. An object
 * takes 16 bytes or more, an element one or more, so a bound on the bytes bounds both.
 */
public final class RoomTest {
    private static final Checks C = new Checks("RoomTest");
    private static final long BYTES = 200_000L;

    public static void main(String[] args) {
        com.sun.management.ThreadMXBean threads =
                (com.sun.management.ThreadMXBean) ManagementFactory.getThreadMXBean();
        useWhole();
        long before = threads.getCurrentThreadAllocatedBytes();
        useWhole();
        long bytes = threads.getCurrentThreadAllocatedBytes() - before;
        System.out.println("RoomTest: " + bytes + " bytes for an object and 512 calls");
        C.yes(bytes + " bytes are few", bytes < BYTES);
        C.finish();
    }

    private static void useWhole() {
        PictureAgency x = new PictureAgency();
        for (int i = 0; i < 40; i++) {
            x.word(i - 1);
            x.picture(i % 16, i, i, 0);
            x.caption(i, i, true);
        }
        for (int i = 0; i < 60; i++) {
            x.sale(i % 40, 0, 0, 1, -1, -1);
            x.print(i % 40, 0, 0, 1);
        }
        for (int i = 0; i < 136; i++) {
            // "most 1;" and blanks
            x.feed(0x6D6F7374, 0x20313B20, 0x20202020, 0x20202020, 0x20202020);
            x.text(i / 4 % 40);
        }
    }
}
