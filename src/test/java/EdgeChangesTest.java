import java.util.function.Consumer;
import java.util.function.ToIntFunction;

/** The sentences under "Changes and errors" that name an edge, but for the refused calls, and promise 18. */
public final class EdgeChangesTest {
    private static final int NONE = Check.NOT_FOUND;

    public static void main(String[] args) {
        changes();
        changesOfNothing();
        noChanges();
        refusedAreNoChanges();
        atMostFive();
        oldestIsDropped();
        oldestIsDroppedAgain();
        recordsEverything();
        recordsEachSetting();
        recordsGusts();
        recordsTheTime();
        recordsTargets();
        recordsWhatWasLookedAt();
        butTheText();
        emptyHistory();
        latestState();
        undoAndAgain();
        invalidRatherThanNotPossible();
        invalidRatherThanLimit();
        invalidRatherThanNotFound();
        notPossibleRatherThanLimit();
        noSuchNumber();
        constants();
        Check.end();
    }

    private static void dueChange(int states, Consumer<DishPointer> setup, ToIntFunction<DishPointer> call,
            int answer) {
        DishPointer x = new DishPointer();
        setup.accept(x);
        int before = x.count(10);
        Check.due(call.applyAsInt(x), answer);
        Check.due(x.count(10), before + states);
    }

    private static void changes() {
        Check.sentence("The changes are the calls of set, setAxis, gust, add, enter, drop, slew and run "
            + "that return no error.");
        dueChange(1, x -> { }, x -> x.set(0, 1), 100);
        dueChange(1, x -> { }, x -> x.set(3, 1), 60);
        dueChange(1, x -> { }, x -> x.setAxis(0, 0, 1), 40);
        dueChange(1, x -> { }, x -> x.setAxis(1, 1, 1), 0);
        dueChange(1, x -> { }, x -> x.gust(0, 1), 0);
        dueChange(1, x -> { }, x -> x.add(0, 500, 0, 1, 1, 0), 0);
        dueChange(1, x -> Check.write(x, "a0e500f0t1d1;a0e500f0t1d1;"), x -> x.enter(), 2);
        dueChange(1, x -> x.add(0, 500, 0, 1, 1, 0), x -> x.drop(0), 0);
        dueChange(1, x -> { }, x -> x.slew(9000, 4500), 16);
        dueChange(1, x -> { }, x -> x.run(2000), 0);
    }

    private static void changesOfNothing() {
        Check.sentence("The changes are the calls of set, setAxis, gust, add, enter, drop, slew and run "
            + "that return no error.");
        dueChange(1, x -> { }, x -> x.set(0, 100), 100);
        dueChange(1, x -> { }, x -> x.setAxis(0, 0, 40), 40);
        dueChange(1, x -> { }, x -> x.gust(29, 0), 0);
        dueChange(1, x -> { }, x -> x.slew(0, 9000), 0);
        dueChange(1, x -> { }, x -> x.run(0), 0);
        dueChange(1, x -> { }, x -> x.enter(), 0);
    }

    private static void noChanges() {
        Check.sentence("The changes are the calls of set, setAxis, gust, add, enter, drop, slew and run");
        Consumer<DishPointer> setup = x -> x.add(9000, 4500, 0, 200, 30, 1);
        dueChange(0, setup, x -> x.count(10), 1);
        dueChange(0, setup, x -> x.axis(0, 0), 40);
        dueChange(0, setup, x -> x.way(0, 1000, 1), 1040);
        dueChange(0, setup, x -> x.placeFor(1000), 1000);
        dueChange(0, setup, x -> x.isWound(), 0);
        dueChange(0, setup, x -> x.target(0, 0), 9000);
        dueChange(0, setup, x -> x.why(0), 0);
        dueChange(0, setup, x -> x.next(), 0);
        dueChange(0, setup, x -> x.ifRun(2000), 1);
        dueChange(0, setup, x -> x.type(65), 1);
        dueChange(0, setup, x -> x.clearText(), 0);
        dueChange(0, setup, x -> x.fault(0), NONE);
        dueChange(-1, setup, x -> x.undo(), 0);
    }

    private static void refusedAreNoChanges() {
        Check.sentence("that return no error");
        Consumer<DishPointer> setup = x -> {
            x.add(9000, 4500, 0, 200, 30, 1);
            x.run(1);
        };
        dueChange(0, setup, x -> x.set(0, 501), Check.INVALID);
        dueChange(0, setup, x -> x.setAxis(0, 0, 301), Check.INVALID);
        dueChange(0, setup, x -> x.gust(0, 1), Check.NOT_POSSIBLE);
        dueChange(0, setup, x -> x.gust(30, 1), Check.INVALID);
        dueChange(0, setup, x -> x.add(36000, 500, 0, 1, 1, 0), Check.INVALID);
        dueChange(0, setup, x -> x.drop(0), Check.NOT_POSSIBLE);
        dueChange(0, setup, x -> x.drop(1), Check.INVALID);
        dueChange(0, setup, x -> x.slew(0, 5000), Check.NOT_POSSIBLE);
        dueChange(0, setup, x -> x.slew(0, 499), Check.INVALID);
        dueChange(0, setup, x -> x.run(2001), Check.INVALID);
        dueChange(0, x -> x.type('x'), x -> x.enter(), Check.NOT_POSSIBLE);
    }

    private static void atMostFive() {
        Check.sentence("A history of at most 5 states is kept");
        DishPointer x = new DishPointer();
        for (int change = 1; change <= 8; change++) {
            x.set(0, change);
            Check.due(x.count(10), Math.min(change, 5));
        }
        for (int left = 4; left >= 0; left--) {
            Check.due(x.undo(), left);
            Check.due(x.count(10), left);
        }
        Check.due(x.undo(), Check.NOT_POSSIBLE);
        Check.due(x.count(10), 0);
    }

    private static void dueOvershoots(DishPointer x, int... overshoots) {
        for (int i = 0; i < overshoots.length; i++) {
            Check.due(x.undo(), overshoots.length - 1 - i);
            Check.due(x.count(12), overshoots[i]);
        }
        Check.due(x.undo(), Check.NOT_POSSIBLE);
    }

    private static void oldestIsDropped() {
        Check.sentence("if there are 6 states then, the oldest one is dropped");
        DishPointer x = new DishPointer();
        for (int change = 1; change <= 5; change++) {
            x.set(0, change);
        }
        dueOvershoots(x, 4, 3, 2, 1, 100);
        for (int change = 1; change <= 6; change++) {
            x.set(0, change);
        }
        dueOvershoots(x, 5, 4, 3, 2, 1);
        Check.due(x.count(12), 1);
    }

    private static void oldestIsDroppedAgain() {
        Check.sentence("if there are 6 states then, the oldest one is dropped");
        DishPointer x = new DishPointer();
        for (int change = 1; change <= 23; change++) {
            x.set(0, change);
        }
        x.undo();
        x.undo();
        x.set(0, 50);
        x.set(0, 51);
        x.set(0, 52);
        dueOvershoots(x, 51, 50, 21, 20, 19);
    }

    /** A dish with three states in its history, and targets in all states. */
    private static DishPointer busy() {
        DishPointer x = new DishPointer();
        x.gust(1, 45);
        Check.write(x, "a9000e4500f0t200d30p5;a9000e4500f0t20d10p1;a18000e4500f40t4000d300p3;"
            + "a1000e600f100t5000d10;");
        x.enter();
        x.run(50);
        Check.dueFrom(0, (dish, number) -> dish.target(number, 6), x, 2, 3, 1, 0);
        Check.due(x.count(10), 3);
        return x;
    }

    private static void recordsEverything() {
        Check.sentence("each change records everything before it but the text");
        dueUndone("set", x -> x.set(0, 1));
        dueUndone("set of the wind", x -> x.set(1, 1));
        dueUndone("set of the push limit", x -> x.set(2, 1));
        dueUndone("set of the hold limit", x -> x.set(3, 0));
        dueUndone("setAxis of a play", x -> x.setAxis(0, 0, 1));
        dueUndone("setAxis of a side", x -> x.setAxis(0, 1, 1));
        dueUndone("setAxis of a speed", x -> x.setAxis(1, 2, 1));
        dueUndone("gust", x -> x.gust(1, 99));
        dueUndone("add", x -> x.add(1, 501, 0, 43200, 600, 9));
        dueUndone("enter", x -> x.enter());
        dueUndone("drop of a done one", x -> x.drop(0));
        dueUndone("drop of the last one", x -> x.drop(3));
        dueUndone("run", x -> x.run(2000));
        dueUndone("run to the end of a slew", x -> x.run(17));
        dueUndone("run of no minutes", x -> x.run(0));
    }

    private static void dueUndone(String what, ToIntFunction<DishPointer> change) {
        DishPointer x = busy();
        Check.due(what + " is taken", change.applyAsInt(x) >= 0, true);
        Check.due(x.count(10), 4);
        Check.due(x.undo(), 3);
        Check.dueSame(what + " undone", x, busy());
    }

    private static void recordsEachSetting() {
        Check.sentence("each change records everything before it but the text");
        int[] most = {500, 27000, 100, 100};
        int[] first = {100, 18000, 30, 60};
        for (int what = 0; what < 4; what++) {
            DishPointer x = new DishPointer();
            x.set(what, most[what]);
            Check.due(x.undo(), 0);
            Check.due(x.count(12 + what), first[what]);
        }
        for (int axis = 0; axis < 2; axis++) {
            for (int what = 0; what < 3; what++) {
                DishPointer x = new DishPointer();
                int before = x.axis(axis, what);
                x.setAxis(axis, what, 1);
                Check.due(x.undo(), 0);
                Check.due(x.axis(axis, what), before);
            }
        }
        // The slack that the lesser play took away comes back, and so does a slew.
        DishPointer x = new DishPointer();
        x.slew(9000, 8000);
        x.slew(9000, 8500);
        x.setAxis(0, 0, 5);
        x.setAxis(1, 0, 5);
        Check.due(x.undo(), 3);
        Check.due(x.undo(), 2);
        Check.dueFrom(3, (dish, what) -> dish.axis(0, what), x, 9040, 40, 9000, 9040, 0, 9040);
        Check.dueFrom(3, (dish, what) -> dish.axis(1, what), x, 8520, 20, 8500, 520, 1000, 8520);
        Check.due(x.undo(), 1);
        Check.dueFrom(3, (dish, what) -> dish.axis(1, what), x, 8000, 0, 8000, 0, 1000, 8000);
        Check.due(x.count(16), 1);
        Check.due(x.undo(), 0);
        Check.dueFrom(3, (dish, what) -> dish.axis(0, what), x, 0, 0, 0, 0, 0, 0);
        Check.due(x.count(16), 0);
    }

    private static void recordsGusts() {
        Check.sentence("each change records everything before it but the text");
        for (int day = 0; day < 30; day++) {
            DishPointer x = new DishPointer();
            x.gust(day, 7);
            x.gust(day, 8);
            Check.due(x.undo(), 1);
            Check.due(x.gust(day, 9), 7);
            Check.due(x.undo(), 1);
            Check.due(x.undo(), 0);
            Check.due(x.gust(day, 9), 0);
        }
    }

    private static void recordsTheTime() {
        Check.sentence("each change records everything before it but the text");
        DishPointer x = new DishPointer();
        x.slew(0, 5000);
        x.gust(1, 60);
        x.run(1439);
        x.run(1);
        Check.due(x.count(17), 1);
        Check.due(x.undo(), 3);
        Check.dueFrom(0, (dish, what) -> dish.count(what), x, 1439, 0, 0, 2);
        Check.due(x.count(17), 0);
        Check.due(x.axis(1, 3), 5000);
        Check.due(x.gust(0, 1), Check.NOT_POSSIBLE);
        Check.due(x.undo(), 2);
        Check.due(x.count(0), 0);
        Check.due(x.gust(0, 1), 0);
        // The hold that was undone begins anew.
        x.run(1440);
        Check.due(x.count(17), 1);
    }

    private static void recordsTargets() {
        Check.sentence("each change records everything before it but the text");
        DishPointer x = new DishPointer();
        x.gust(1, 60);
        x.add(9000, 4500, 1400, 5000, 100, 0);
        x.add(9000, 4500, 1300, 1400, 20, 0);
        x.run(1439);
        x.run(1);
        Check.dueFrom(6, (dish, what) -> dish.target(0, what), x, 0, NONE, NONE, NONE, NONE, 1, NONE);
        Check.due(x.undo(), 4);
        Check.dueFrom(6, (dish, what) -> dish.target(0, what), x, 1, 1400, 1400, 1500, NONE, 0, 9000);
        Check.dueFrom(6, (dish, what) -> dish.target(1, what), x, 2, 1300, 1316, 1336, 0, 0, 9000);
        Check.due(x.undo(), 3);
        Check.dueFrom(6, (dish, what) -> dish.target(0, what), x, 0, NONE, NONE, NONE, NONE, 0, NONE);
        Check.dueFrom(6, (dish, what) -> dish.target(1, what), x, 0, NONE, NONE, NONE, NONE, 0, NONE);
        Check.due(x.undo(), 2);
        Check.due(x.count(4), 1);
        Check.due(x.target(1, 0), Check.INVALID);
        Check.due(x.undo(), 1);
        Check.due(x.count(4), 0);
        Check.due(x.target(0, 0), Check.INVALID);
        // Ten targets come back behind a drop.
        for (int number = 0; number < 10; number++) {
            x.add(number, 500, 0, 1, 1, 0);
        }
        x.drop(0);
        x.undo();
        Check.due(x.count(4), 10);
        Check.due(x.add(0, 500, 0, 1, 1, 0), Check.LIMIT);
        Check.dueFrom(0, (dish, number) -> dish.target(number, 0), x, 0, 1, 2, 3, 4, 5, 6, 7, 8, 9);
    }

    private static void recordsWhatWasLookedAt() {
        Check.sentence("each change records everything before it but the text");
        DishPointer x = new DishPointer();
        x.add(9000, 4500, 0, 200, 30, 1);
        x.run(15);
        // Looked at on a calm day; with this undone, it is looked at on a push.
        x.run(1);
        x.undo();
        x.set(2, 0);
        x.run(1);
        Check.due(x.axis(0, 4), 0);
        // And it stays looked at when only what came later is undone.
        x.undo();
        x.undo();
        x.run(1);
        x.set(2, 0);
        x.undo();
        x.set(2, 0);
        x.run(0);
        Check.due(x.axis(0, 4), 40);
    }

    private static void butTheText() {
        Check.sentence("each change records everything before it but the text");
        DishPointer x = new DishPointer();
        x.type('x');
        x.set(0, 1);
        x.type('y');
        Check.due(x.undo(), 0);
        Check.due(x.count(11), 2);
        x.set(0, 1);
        x.clearText();
        Check.due(x.undo(), 0);
        Check.due(x.count(11), 0);
        Check.due(x.fault(0), NONE);
        // What enter added goes, its text stays.
        Check.write(x, "a0e500f0t1d1;");
        Check.due(x.enter(), 1);
        Check.due(x.undo(), 0);
        Check.due(x.count(4), 0);
        Check.due(x.count(11), 13);
        Check.due(x.enter(), 1);
        Check.due(x.count(4), 1);
    }

    private static void emptyHistory() {
        Check.sentence("Returns the number of states that are left in the history; NOT_POSSIBLE if it is empty.");
        DishPointer x = new DishPointer();
        Check.due(x.undo(), Check.NOT_POSSIBLE);
        Check.due(x.count(10), 0);
        x.type('x');
        x.ifRun(5);
        Check.due(x.undo(), Check.NOT_POSSIBLE);
        x.set(0, 501);
        Check.due(x.undo(), Check.NOT_POSSIBLE);
        x.set(0, 1);
        Check.due(x.undo(), 0);
        Check.due(x.undo(), Check.NOT_POSSIBLE);
        Check.due(x.undo(), Check.NOT_POSSIBLE);
        Check.due(x.count(10), 0);
        Check.due(x.count(12), 100);
    }

    private static void latestState() {
        Check.sentence("Restores the latest state of the history, which is removed from it.");
        DishPointer x = new DishPointer();
        x.set(0, 1);
        x.set(0, 2);
        x.set(0, 3);
        Check.due(x.undo(), 2);
        Check.due(x.count(12), 2);
        Check.due(x.undo(), 1);
        Check.due(x.count(12), 1);
        x.set(0, 4);
        Check.due(x.count(10), 2);
        Check.due(x.undo(), 1);
        Check.due(x.count(12), 1);
        Check.due(x.undo(), 0);
        Check.due(x.count(12), 100);
    }

    /** A restored state is a state of its own: what comes later does not change the history. */
    private static void undoAndAgain() {
        Check.sentence("Restores the latest state of the history, which is removed from it.");
        DishPointer x = new DishPointer();
        x.add(1, 500, 0, 1, 1, 0);
        x.add(2, 500, 0, 1, 1, 0);
        x.drop(0);
        x.undo();
        x.add(3, 500, 0, 1, 1, 0);
        x.undo();
        Check.due(x.count(4), 2);
        Check.dueFrom(0, (dish, number) -> dish.target(number, 0), x, 1, 2, Check.INVALID);
        x.drop(1);
        x.add(4, 500, 0, 1, 1, 0);
        Check.dueFrom(0, (dish, number) -> dish.target(number, 0), x, 1, 4, Check.INVALID);
        x.undo();
        Check.dueFrom(0, (dish, number) -> dish.target(number, 0), x, 1, Check.INVALID);
        x.undo();
        Check.dueFrom(0, (dish, number) -> dish.target(number, 0), x, 1, 2, Check.INVALID);
        x.undo();
        Check.dueFrom(0, (dish, number) -> dish.target(number, 0), x, 1, Check.INVALID);
    }

    private static void invalidRatherThanNotPossible() {
        Check.sentence("INVALID_ARGUMENT is returned rather than NOT_POSSIBLE");
        DishPointer x = new DishPointer();
        x.add(9000, 4500, 0, 200, 30, 1);
        x.run(1);
        Check.due(x.gust(0, 0), Check.NOT_POSSIBLE);
        Check.due(x.gust(0, -1), Check.INVALID);
        Check.due(x.gust(0, 100), Check.INVALID);
        Check.due(x.gust(-1, 0), Check.INVALID);
        Check.due(x.slew(0, 5000), Check.NOT_POSSIBLE);
        Check.due(x.slew(-1, 5000), Check.INVALID);
        Check.due(x.slew(36000, 5000), Check.INVALID);
        Check.due(x.slew(0, 499), Check.INVALID);
        Check.due(x.slew(0, 9001), Check.INVALID);
        Check.due(x.drop(0), Check.NOT_POSSIBLE);
        Check.due(x.drop(1), Check.INVALID);
        // On a hold, and where a way is not possible.
        x = new DishPointer();
        x.gust(0, 60);
        Check.due(x.slew(0, 5000), Check.NOT_POSSIBLE);
        Check.due(x.slew(36000, 5000), Check.INVALID);
        x.gust(0, 0);
        x.setAxis(1, 1, 1);
        Check.due(x.slew(0, 500), Check.NOT_POSSIBLE);
        Check.due(x.slew(0, 499), Check.INVALID);
        Check.due(x.slew(36000, 500), Check.INVALID);
    }

    private static void invalidRatherThanLimit() {
        Check.sentence("INVALID_ARGUMENT is returned rather than NOT_POSSIBLE, NOT_POSSIBLE rather than LIMIT_REACHED");
        DishPointer x = new DishPointer();
        for (int number = 0; number < 10; number++) {
            x.add(0, 500, 0, 1, 1, 0);
        }
        Check.due(x.add(0, 500, 0, 1, 1, 0), Check.LIMIT);
        Check.due(x.add(0, 500, 0, 1, 1, 10), Check.INVALID);
        Check.due(x.add(0, 500, 1, 1, 1, 0), Check.INVALID);
        for (int length = 0; length < 100; length++) {
            x.type(' ');
        }
        Check.due(x.type(32), Check.LIMIT);
        Check.due(x.type(31), Check.INVALID);
        Check.due(x.type(127), Check.INVALID);
        Check.pass(x, 43200);
        Check.due(x.run(1), Check.LIMIT);
        Check.due(x.run(-1), Check.INVALID);
        Check.due(x.run(2001), Check.INVALID);
        Check.due(x.run(Integer.MAX_VALUE), Check.INVALID);
        Check.due(x.ifRun(1), Check.LIMIT);
        Check.due(x.ifRun(-1), Check.INVALID);
        Check.due(x.ifRun(2001), Check.INVALID);
        Check.due(x.ifRun(Integer.MAX_VALUE), Check.INVALID);
    }

    private static void invalidRatherThanNotFound() {
        Check.sentence("LIMIT_REACHED rather than NOT_FOUND");
        DishPointer x = new DishPointer();
        Check.due(x.fault(0), NONE);
        Check.due(x.fault(2), Check.INVALID);
        Check.due(x.way(1, 499, 0), NONE);
        Check.due(x.way(1, 499, 4), Check.INVALID);
        Check.due(x.way(2, 499, 0), Check.INVALID);
        x.add(0, 500, 0, 1, 1, 0);
        Check.due(x.target(0, 7), NONE);
        Check.due(x.target(1, 7), Check.INVALID);
        Check.due(x.target(0, 13), Check.INVALID);
        Check.due(x.count(8), NONE);
        Check.due(x.count(19), Check.INVALID);
    }

    private static void notPossibleRatherThanLimit() {
        Check.sentence("NOT_POSSIBLE rather than LIMIT_REACHED");
        // A text without room has a fault, and that is what enter tells.
        DishPointer x = new DishPointer();
        for (int number = 0; number < 10; number++) {
            x.add(0, 500, 0, 1, 1, 0);
        }
        Check.write(x, "a0e500f0t1d1;");
        Check.due(x.enter(), Check.NOT_POSSIBLE);
        Check.due(x.fault(1), 3);
        Check.due(x.add(0, 500, 0, 1, 1, 0), Check.LIMIT);
    }

    private static void noSuchNumber() {
        Check.sentence("If there is no axis or target with a certain number, this is INVALID_ARGUMENT.");
        for (int axis : new int[] {-1, 2, Integer.MIN_VALUE, Integer.MAX_VALUE}) {
            DishPointer x = new DishPointer();
            Check.due(x.setAxis(axis, 0, 1), Check.INVALID);
            Check.due(x.axis(axis, 0), Check.INVALID);
            Check.due(x.way(axis, 0, 0), Check.INVALID);
        }
        for (int number : new int[] {-1, 1, 9, 10, Integer.MIN_VALUE, Integer.MAX_VALUE}) {
            DishPointer x = new DishPointer();
            x.add(0, 500, 0, 1, 1, 0);
            Check.due(x.drop(number), Check.INVALID);
            Check.due(x.target(number, 0), Check.INVALID);
            Check.due(x.why(number), Check.INVALID);
            // One that is there no more.
            Check.due(x.drop(0), 0);
            Check.due(x.target(0, 0), Check.INVALID);
            Check.due(x.why(0), Check.INVALID);
            Check.due(x.drop(0), Check.INVALID);
        }
    }

    private static void constants() {
        Check.sentence("`INVALID_ARGUMENT = -100001`: An argument is out of its range, "
            + "or there is no such axis or target.");
        Check.due(DishPointer.INVALID_ARGUMENT, -100001);
        Check.sentence("`NOT_POSSIBLE = -100002`: The call is not possible in the present state.");
        Check.due(DishPointer.NOT_POSSIBLE, -100002);
        Check.sentence("`LIMIT_REACHED = -100003`: A fixed limit has been reached.");
        Check.due(DishPointer.LIMIT_REACHED, -100003);
        Check.sentence("`NOT_FOUND = -100004`: There is no such value.");
        Check.due(DishPointer.NOT_FOUND, -100004);
    }
}
