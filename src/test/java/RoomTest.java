import java.lang.management.ManagementFactory;

/** All calls of a run share one room, so a run of the dearest calls must make next to nothing. */
public final class RoomTest {
    private static final com.sun.management.ThreadMXBean BEAN =
            (com.sun.management.ThreadMXBean) ManagementFactory.getThreadMXBean();
    private static final long MOST_BYTES = 2_000_000;

    private static long made() {
        return BEAN.getThreadAllocatedBytes(Thread.currentThread().getId());
    }

    private static String crowded() {
        StringBuilder s = new StringBuilder("size 8 8;gain 1;");
        for (int i = 0; i < 6; i++) {
            s.append("net ").append(i).append(" 9;");
            s.append("pin ").append(i).append(" 0 ").append(i).append(";pin ").append(i).append(" 7 ").append(7 - i);
            s.append(";pin ").append(i).append(' ').append(i).append(" 7;pin ").append(i).append(' ').append(7 - i).append(" 0;");
        }
        return s.toString();
    }

    /** Works and undos while an image is there: each work keeps a state that the image might need. */
    private static void works(Kit k) {
        k.board(crowded());
        k.wires.image();
        for (int i = 0; i < 170; i++) {
            k.wires.feed(0x726f756e, 0x643b2020, 0, 0, 0);
            k.wires.work(6);
            k.wires.undo();
        }
    }

    private static void asked(Kit k) {
        k.board(crowded());
        k.work("round;");
        for (int i = 0; i < 60; i++) {
            k.wires.span(i, 5, 40, 3, 0, 0);
            k.wires.settled();
            k.wires.jam(0);
            k.wires.look(0);
            k.wires.fits(0);
            k.wires.fewest(i % 6);
            k.wires.spared(i % 6, 4, 4);
            k.wires.net(0, 8);
        }
    }

    public static void main(String[] args) {
        Kit first = new Kit();
        works(first);
        asked(first);
        long start = made();
        works(new Kit());
        long forWorks = made() - start;
        start = made();
        asked(new Kit());
        long forAsked = made() - start;
        System.out.println("RoomTest: " + forWorks + " bytes made by works, " + forAsked + " by asking");
        if (forWorks > MOST_BYTES || forAsked > MOST_BYTES) {
            System.exit(1);
        }
    }
}
