/** Compares answers with those that are due, and tells the lines at which they differ. */
final class Check {
    static final int INVALID = DishPointer.INVALID_ARGUMENT;
    static final int NOT_POSSIBLE = DishPointer.NOT_POSSIBLE;
    static final int LIMIT = DishPointer.LIMIT_REACHED;
    static final int NOT_FOUND = DishPointer.NOT_FOUND;

    private static int compared = 0;
    private static int wrong = 0;

    private Check() {
    }

    static void due(long got, long want) {
        compared++;
        if (got != want) {
            tell("answered " + got + ", due is " + want);
        }
    }

    static void due(String what, Object got, Object want) {
        compared++;
        if (!want.equals(got)) {
            tell(what + " is " + got + ", due is " + want);
        }
    }

    private static void tell(String text) {
        wrong++;
        StackTraceElement[] stack = new Throwable().getStackTrace();
        System.out.println(stack[2] + ": " + text);
    }

    /** Types a text, in place of the one that was there. */
    static void write(DishPointer dish, String text) {
        dish.clearText();
        for (int i = 0; i < text.length(); i++) {
            dish.type(text.charAt(i));
        }
    }

    /** What a dish tells of itself and of its first targets. */
    static int[] dump(DishPointer x, int targets) {
        int[] all = new int[19 + 18 + 13 * targets];
        for (int i = 0; i < 19; i++) {
            all[i] = x.count(i);
        }
        for (int i = 0; i < 18; i++) {
            all[19 + i] = x.axis(i / 9, i % 9);
        }
        for (int i = 0; i < 13 * targets; i++) {
            all[37 + i] = x.target(i / 13, i % 13);
        }
        return all;
    }

    static void end() {
        System.out.println(compared + " answers compared, " + wrong + " wrong");
        if (wrong != 0 || compared == 0) {
            System.exit(1);
        }
    }
}
