import java.lang.management.ManagementFactory;

/** What the constructor and the calls of one dish make stays far below the room that all calls of a run have. */
public final class RoomTest {
    // The room holds some 600,000 objects with 7.3 million fields and elements; this is a tenth of it in bytes.
    private static final long SHARE = 7_300_000L * 4 / 10;
    private static final int MOST_CALLS = 512;

    private static final com.sun.management.ThreadMXBean THREADS =
        (com.sun.management.ThreadMXBean) ManagementFactory.getThreadMXBean();

    public static void main(String[] args) {
        for (int kind = 0; kind < 8; kind++) {
            made(kind, 10);
            long bytes = made(kind, MOST_CALLS - 10);
            System.out.println("a dish and its calls of kind " + kind + " make " + bytes + " bytes");
            Check.due("little is made", bytes < SHARE, true);
        }
        Check.end();
    }

    private static long made(int kind, int calls) {
        long thread = Thread.currentThread().getId();
        long before = THREADS.getThreadAllocatedBytes(thread);
        DishPointer dish = new DishPointer();
        for (int number = 0; number < 10; number++) {
            dish.add(100 * number, 4500, 0, 43200, 600, number);
        }
        for (int i = 0; i < calls; i++) {
            use(dish, kind, i);
        }
        return THREADS.getThreadAllocatedBytes(thread) - before;
    }

    private static void use(DishPointer dish, int kind, int i) {
        switch (kind) {
            case 0:
                dish.set(i % 4, i % 100);
                break;
            case 1:
                dish.run(i % 100);
                break;
            case 2:
                dish.ifRun(2000);
                break;
            case 3:
                dish.slew(i * 70 % 36000, 500 + i);
                break;
            case 4:
                dish.type("a0e500f0t1d1;".charAt(i % 13));
                break;
            case 5:
                dish.enter();
                break;
            case 6:
                dish.next();
                break;
            default:
                if (i % 2 == 0) {
                    dish.drop(i % 10);
                } else {
                    dish.undo();
                }
                break;
        }
    }
}
