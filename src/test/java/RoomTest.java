import java.lang.management.ManagementFactory;

/** All calls of a run live in one room: the dearest calls, again and again, must make next to nothing. */
public final class RoomTest {
    private static final com.sun.management.ThreadMXBean BEAN =
            (com.sun.management.ThreadMXBean) ManagementFactory.getThreadMXBean();
    private static int wrong;

    private static long made() {
        return BEAN.getThreadAllocatedBytes(Thread.currentThread().getId());
    }

    private static void must(boolean holds, String what, long bytes) {
        if (!holds) {
            wrong++;
            System.out.println(what + ": " + bytes + " bytes");
        }
    }

    /** With those that make the land these are 508 calls: an object may be used for 512. */
    private static void dearCalls(HopBeams x) {
        for (int k = 0; k < 69; k++) {
            x.fewest();
            x.ways(24);
            x.go(200);
            x.sets();
            x.proof(0);
            x.row(1, 3, 60);
            x.paste(0, 0, 0, 1, 9);
        }
    }

    private static HopBeams wideLand() {
        HopBeams x = new HopBeams();
        x.terms(4, 1000, 20, 9);
        for (int c = 0; c < 10; c++) {
            x.cell(1, 7, 1 + c % 9, c % 3);
        }
        x.row(0, 3, 10);
        for (int i = 0; i < 10; i++) {
            x.write(0, i, 9);
        }
        x.needs(0);
        x.asks(0);
        x.rule(1);
        return x;
    }

    public static void main(String[] args) {
        dearCalls(wideLand());
        long before = made();
        new HopBeams();
        long empty = made() - before;
        must(empty < 12000, "an object that is only made", empty);
        before = made();
        dearCalls(wideLand());
        long whole = made() - before;
        must(whole < 160000, "an object with 483 of the dearest calls", whole);
        System.out.println(wrong == 0 ? "the room is kept: " + empty + " and " + whole + " bytes" : "the room is not kept");
        if (wrong != 0) {
            System.exit(1);
        }
    }
}
