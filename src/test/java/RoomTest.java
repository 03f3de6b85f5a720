import java.lang.management.ManagementFactory;

/** All rows are made in the constructor: no later call makes an object. */
public final class RoomTest {
    private static final int CALLS = 500;
    // What the machine itself may take aside, far less than a byte a call of one object would be.
    private static final long ASIDE = 4096;

    public static void main(String[] args) {
        com.sun.management.ThreadMXBean threads =
            (com.sun.management.ThreadMXBean) ManagementFactory.getThreadMXBean();
        long thread = Thread.currentThread().getId();
        use(new DishPointer());
        use(new DishPointer());

        long first = threads.getThreadAllocatedBytes(thread);
        DishPointer dish = new DishPointer();
        long made = threads.getThreadAllocatedBytes(thread);
        use(dish);
        long used = threads.getThreadAllocatedBytes(thread);

        System.out.println("the constructor takes " + (made - first) + " bytes, the calls " + (used - made));
        Check.due("a dish is small", made - first < 20000, true);
        Check.due("calls make nothing", used - made < ASIDE, true);
        Check.end();
    }

    private static void use(DishPointer dish) {
        int sum = 0;
        for (int i = 0; i < CALLS; i++) {
            sum += dish.set(i % 4, i % 100);
            sum += dish.setAxis(i % 2, i % 3, i % 3);
            sum += dish.gust(i % 30, i % 100);
            sum += dish.add(i * 70, 500 + i, i, i + 2000, 1 + i % 30, i % 10);
            sum += dish.slew(i * 70, 500 + i) + dish.placeFor(i) + dish.way(i % 2, i, i % 4);
            sum += dish.count(i % 19) + dish.axis(i % 2, i % 9) + dish.target(i % 10, i % 13);
            sum += dish.why(i % 10) + dish.next() + dish.ifRun(100) + dish.run(i % 3) + dish.isWound();
            sum += dish.type("a0e500f0t1d1;".charAt(i % 13)) + dish.fault(i % 2) + dish.enter();
            sum += dish.drop(i % 10) + (i % 50 == 0 ? dish.undo() + dish.clearText() : 0);
        }
        if (sum == 0) {
            System.out.println("all answers together are 0");
        }
    }
}
