/** The sentences on what happens in a minute that name an edge, and promises 16 and 17. */
public final class EdgeMinutesTest {
    private static final int NONE = Check.NOT_FOUND;

    public static void main(String[] args) {
        presentMinute();
        lastMinute();
        minuteByMinute();
        slewLookedAtAtItsMinute();
        slewLookedAtOnce();
        slewLookedAtOnceAtItsFirstMinute();
        dayOfTheMinute();
        doneAtItsMinute();
        missedAtItsMinute();
        missedBehindItsMinute();
        missedWhileAnotherIsUnderWay();
        doneAheadOfBegun();
        pushAheadOfDone();
        missedBehindAnother();
        priorities();
        windowsThatEndFirst();
        lowestNumbers();
        noneWhileOneIsUnderWay();
        holdAheadOfDone();
        holdAheadOfPush();
        holdAheadOfMissed();
        holdAheadOfBegun();
        endOfHold();
        lastMinuteOfAll();
        promise16Ranges();
        promise16Became();
        promise16Limit();
        promise16Nought();
        promise17Ranges();
        promise17AllDone();
        promise17HoldAndLimit();
        promise17NothingChanges();
        Check.end();
    }

    /** A dish with a target that takes 16 minutes of slew. */
    private static DishPointer withTarget(int from, int to, int dwell) {
        DishPointer x = new DishPointer();
        x.add(9000, 4500, from, to, dwell, 1);
        return x;
    }

    private static void presentMinute() {
        Check.sentence("(from the present one to the last one, both included)");
        // It can be begun at the present minute alone.
        DishPointer x = withTarget(0, 46, 30);
        Check.due(x.run(1), 0);
        Check.due(x.target(0, 7), 0);
        x = new DishPointer();
        x.run(20);
        x.add(9000, 4500, 0, 66, 30, 1);
        Check.due(x.run(46), 1);
        Check.due(x.target(0, 7), 20);
        x = withTarget(0, 45, 30);
        x.run(45);
        Check.due(x.target(0, 6), 3);
    }

    private static void lastMinute() {
        Check.sentence("(from the present one to the last one, both included)");
        DishPointer x = withTarget(10, 200, 30);
        x.run(9);
        Check.due(x.target(0, 6), 0);
        x.run(1);
        Check.due(x.target(0, 6), 1);
        Check.due(x.target(0, 7), 10);
        x = withTarget(10, 200, 30);
        x.run(10);
        Check.due(x.target(0, 7), 10);
        x = withTarget(2000, 3000, 30);
        x.run(2000);
        Check.due(x.target(0, 7), 2000);
    }

    private static void minuteByMinute() {
        Check.sentence("When minutes go by, this happens minute by minute, at each one");
        DishPointer once = new DishPointer();
        DishPointer often = new DishPointer();
        for (DishPointer x : new DishPointer[] {once, often}) {
            x.gust(0, 30);
            x.add(9000, 4500, 3, 100, 5, 1);
            x.add(18000, 4500, 10, 100, 5, 2);
            x.add(500, 600, 0, 70, 5, 0);
        }
        Check.due(once.run(100), 3);
        int became = 0;
        for (int i = 0; i < 100; i++) {
            became += often.run(1);
        }
        Check.due(became, 3);
        for (int number = 0; number < 3; number++) {
            for (int what = 6; what < 13; what++) {
                Check.due(often.target(number, what), once.target(number, what));
            }
        }
        Check.dueFrom(6, (dish, what) -> dish.target(2, what), once, 2, 0, 28, 33, 40, 0, 500);
        Check.dueFrom(6, (dish, what) -> dish.target(1, what), once, 2, 33, 63, 68, 40, 0, 18000);
        Check.dueFrom(6, (dish, what) -> dish.target(0, what), once, 2, 68, 84, 89, 0, 0, 9000);
    }

    private static void slewLookedAtAtItsMinute() {
        Check.sentence("a slew that is finished now is looked at, once: if the day is a push then, the dish is pushed");
        DishPointer x = withTarget(0, 200, 30);
        x.gust(0, 30);
        x.run(15);
        Check.due(x.axis(0, 4), 40);
        x.run(0);
        Check.due(x.axis(0, 4), 40);
        x.run(1);
        Check.due(x.axis(0, 4), 0);
        // What is set a minute before it is early enough.
        x = withTarget(0, 200, 30);
        x.run(15);
        x.set(2, 0);
        x.run(1);
        Check.due(x.axis(0, 4), 0);
        x = withTarget(0, 200, 30);
        x.set(2, 0);
        x.run(15);
        x.set(2, 1);
        x.run(31);
        Check.due(x.axis(0, 4), 40);
        Check.due(x.target(0, 10), 0);
    }

    private static void slewLookedAtOnce() {
        Check.sentence("a slew that is finished now is looked at, once");
        // Not a push when it is looked at, one at the same minute later.
        DishPointer x = withTarget(0, 200, 30);
        x.run(16);
        x.set(2, 0);
        x.run(0);
        Check.due(x.axis(0, 4), 40);
        x.run(1);
        Check.due(x.axis(0, 4), 40);
        // Pushed on an odd day; the slack that a lesser play took away does not come back.
        x = new DishPointer();
        x.gust(1, 30);
        x.run(1440);
        x.add(27000, 4500, 0, 2000, 30, 1);
        x.run(15);
        Check.due(x.axis(0, 4), 40);
        x.setAxis(0, 0, 10);
        x.setAxis(0, 0, 40);
        x.run(0);
        Check.due(x.axis(0, 4), 10);
        x.run(30);
        Check.due(x.target(0, 10), -10);
    }

    private static void slewLookedAtOnceAtItsFirstMinute() {
        Check.sentence("(at once, if that is 0; a push comes then)");
        DishPointer x = new DishPointer();
        x.gust(1, 30);
        x.run(1440);
        x.slew(0, 8500);
        x.add(0, 8500, 0, 2000, 30, 1);
        x.run(0);
        Check.due(x.axis(0, 4), 40);
        x.setAxis(0, 0, 10);
        x.setAxis(0, 0, 40);
        x.run(0);
        Check.due(x.axis(0, 4), 10);
        x.run(29);
        Check.due(x.axis(0, 4), 10);
    }

    private static void dayOfTheMinute() {
        Check.sentence("if the day is a push then, the dish is pushed");
        DishPointer x = withTarget(1423, 3000, 30);
        x.gust(0, 30);
        x.run(1439);
        Check.due(x.axis(0, 4), 0);
        x = withTarget(1424, 3000, 30);
        x.gust(0, 30);
        x.run(1440);
        Check.due(x.axis(0, 4), 40);
        x = new DishPointer();
        x.gust(1, 30);
        x.add(27000, 4500, 1424, 3000, 30, 1);
        x.run(1439);
        Check.due(x.axis(0, 4), 0);
        x = new DishPointer();
        x.gust(1, 30);
        x.add(27000, 4500, 1425, 3000, 30, 1);
        x.run(1440);
        Check.due(x.axis(0, 4), 40);
    }

    private static void doneAtItsMinute() {
        Check.sentence("the target under way that is done becomes done");
        DishPointer x = withTarget(0, 46, 30);
        Check.due(x.run(45), 0);
        Check.due(x.target(0, 6), 1);
        Check.due(x.count(9), 1);
        Check.due(x.run(0), 0);
        Check.due(x.run(1), 1);
        Check.due(x.target(0, 6), 2);
        Check.due(x.run(0), 0);
        Check.due(x.run(1), 0);
        Check.due(x.count(6), 1);
    }

    private static void missedAtItsMinute() {
        Check.sentence("the waiting targets whose windows end at this minute or before are missed");
        DishPointer x = new DishPointer();
        x.add(9000, 4500, 0, 19, 30, 1);
        x.add(9000, 4500, 0, 20, 30, 1);
        x.add(9000, 4500, 0, 21, 30, 1);
        x.run(18);
        Check.dueFrom(0, (dish, number) -> dish.target(number, 6), x, 0, 0, 0);
        x.run(1);
        Check.dueFrom(0, (dish, number) -> dish.target(number, 6), x, 3, 0, 0);
        x.run(1);
        Check.dueFrom(0, (dish, number) -> dish.target(number, 6), x, 3, 3, 0);
        Check.due(x.count(7), 2);
        // Also one whose window has not been long enough for anything.
        x = withTarget(5, 6, 30);
        x.run(5);
        Check.due(x.target(0, 6), 0);
        x.run(1);
        Check.due(x.target(0, 6), 3);
    }

    private static void missedBehindItsMinute() {
        Check.sentence("the waiting targets whose windows end at this minute or before are missed");
        DishPointer x = new DishPointer();
        x.run(100);
        x.add(9000, 4500, 0, 1, 30, 1);
        x.add(9000, 4500, 0, 99, 30, 1);
        x.add(9000, 4500, 0, 100, 30, 1);
        x.add(9000, 4500, 0, 101, 30, 1);
        Check.dueFrom(0, (dish, number) -> dish.target(number, 6), x, 0, 0, 0, 0);
        Check.due(x.count(7), 0);
        x.run(0);
        Check.dueFrom(0, (dish, number) -> dish.target(number, 6), x, 3, 3, 3, 0);
        Check.due(x.count(7), 3);
        x.run(1);
        Check.dueFrom(0, (dish, number) -> dish.target(number, 6), x, 3, 3, 3, 3);
    }

    private static void missedWhileAnotherIsUnderWay() {
        Check.sentence("the waiting targets whose windows end at this minute or before are missed");
        DishPointer x = withTarget(0, 200, 100);
        x.add(9000, 4500, 0, 20, 1, 0);
        x.run(20);
        Check.dueFrom(0, (dish, number) -> dish.target(number, 6), x, 1, 3);
        // The one under way is not missed at the end of its window, but done.
        x = withTarget(0, 46, 30);
        Check.due(x.run(46), 1);
        Check.due(x.target(0, 6), 2);
    }

    private static void doneAheadOfBegun() {
        Check.sentence("if none is under way, of the targets that can be begun the one with the highest priority");
        DishPointer x = withTarget(0, 46, 30);
        x.add(9000, 4500, 0, 47, 1, 0);
        Check.due(x.run(45), 0);
        Check.due(x.run(1), 1);
        Check.due(x.target(1, 6), 1);
        Check.due(x.target(1, 7), 46);
        Check.due(x.target(1, 9), 47);
        Check.due(x.count(9), 1);
        Check.due(x.run(1), 1);
        // Only one is begun in a minute.
        x = new DishPointer();
        x.slew(0, 8500);
        x.add(0, 8500, 0, 10, 1, 0);
        x.add(0, 8500, 0, 10, 1, 0);
        x.run(0);
        Check.dueFrom(0, (dish, number) -> dish.target(number, 6), x, 1, 0);
        x.run(1);
        Check.dueFrom(0, (dish, number) -> dish.target(number, 6), x, 2, 1);
        x.run(1);
        Check.dueFrom(0, (dish, number) -> dish.target(number, 6), x, 2, 2);
        Check.due(x.target(1, 8), 1);
    }

    private static void pushAheadOfDone() {
        Check.sentence("the dish is pushed; the target under way that is done becomes done");
        DishPointer x = withTarget(0, 200, 1);
        x.gust(0, 30);
        Check.due(x.run(17), 1);
        Check.due(x.target(0, 10), 40);
        // The push of the next one's slew comes behind the error of this one.
        x = new DishPointer();
        x.gust(1, 30);
        x.run(1440);
        x.set(2, 31);
        x.add(27000, 4500, 0, 2000, 10, 1);
        x.add(27000, 4500, 0, 2000, 10, 0);
        x.run(24);
        x.set(2, 30);
        Check.due(x.run(1), 1);
        Check.due(x.target(0, 10), 0);
        Check.due(x.target(1, 8), 1465);
        Check.due(x.axis(0, 4), 40);
        Check.due(x.run(10), 1);
        Check.due(x.target(1, 10), -40);
    }

    private static void missedBehindAnother() {
        Check.sentence("becomes done; the waiting targets whose windows end at this minute or before are missed; "
            + "if none is under way");
        DishPointer x = withTarget(0, 46, 30);
        x.add(9000, 4500, 0, 46, 1, 9);
        x.run(0);
        // The one of the higher priority is begun and done; then the other one has no time left.
        Check.due(x.count(8), 1);
        Check.due(x.run(17), 1);
        Check.due(x.target(0, 6), 0);
        Check.due(x.count(8), NONE);
        Check.due(x.run(29), 0);
        Check.due(x.target(0, 6), 3);
    }

    private static void dueOrder(DishPointer x, int... numbers) {
        x.run(0);
        for (int number : numbers) {
            Check.due(x.count(8), number);
            x.run(x.count(9));
            Check.due(x.target(number, 6), 2);
        }
        Check.due(x.count(8), NONE);
    }

    private static void priorities() {
        Check.sentence("of the targets that can be begun the one with the highest priority is begun");
        DishPointer x = new DishPointer();
        int[] priorities = {3, 9, 0, 8, 1};
        for (int priority : priorities) {
            x.add(9000, 4500, 0, 2000 + 10 * priority, 30, priority);
        }
        dueOrder(x, 1, 3, 0, 4, 2);
        // One that can not be begun does not stand in the way.
        x = withTarget(0, 200, 30);
        x.add(9000, 4500, 1, 200, 30, 9);
        x.run(0);
        Check.due(x.count(8), 0);
    }

    private static void windowsThatEndFirst() {
        Check.sentence("of several the one whose window ends first");
        DishPointer x = new DishPointer();
        int[] ends = {1000, 999, 1001, 998, 1500};
        for (int end : ends) {
            x.add(9000, 4500, 0, end, 30, 5);
        }
        dueOrder(x, 3, 1, 0, 2, 4);
        // Neither the begin of the window nor the dwell counts.
        x = new DishPointer();
        x.run(10);
        x.add(9000, 4500, 0, 1000, 1, 5);
        x.add(9000, 4500, 9, 999, 30, 5);
        x.run(0);
        Check.due(x.count(8), 1);
    }

    private static void lowestNumbers() {
        Check.sentence("then the lowest one");
        DishPointer x = new DishPointer();
        for (int number = 0; number < 10; number++) {
            x.add(9000 - number, 4500, 0, 2000, 9 - number + 1, 5);
        }
        dueOrder(x, 0, 1, 2, 3, 4, 5, 6, 7, 8, 9);
    }

    private static void noneWhileOneIsUnderWay() {
        Check.sentence("if none is under way");
        DishPointer x = withTarget(0, 1000, 600);
        x.add(9000, 4500, 5, 1000, 1, 9);
        x.run(615);
        Check.due(x.count(8), 0);
        Check.due(x.target(1, 6), 0);
        Check.due(x.count(16), 1);
        x.run(1);
        Check.due(x.count(8), 1);
    }

    private static void holdAheadOfDone() {
        Check.sentence("A hold begins ahead of all this at its first minute.");
        int[] dwells = {15, 16, 17};
        int[] states = {2, 0, 0};
        for (int i = 0; i < dwells.length; i++) {
            DishPointer x = withTarget(1408, 5000, dwells[i]);
            x.gust(1, 60);
            Check.due(x.ifRun(1440), i == 0 ? 1 : 0);
            Check.due(x.run(1440), i == 0 ? 1 : 0);
            Check.due(x.target(0, 6), states[i]);
            Check.due(x.target(0, 11), i == 0 ? 0 : 1);
        }
        // A push does not break off.
        DishPointer x = withTarget(1408, 5000, 16);
        x.gust(1, 59);
        Check.due(x.run(1440), 1);
        Check.due(x.target(0, 11), 0);
    }

    private static void holdAheadOfPush() {
        Check.sentence("A hold begins ahead of all this at its first minute.");
        // The slew would be finished at the first minute of the hold, which is odd or even.
        int[] azimuths = {27000, 9000};
        int[] times = {15, 16};
        for (int day = 1; day <= 2; day++) {
            DishPointer x = new DishPointer();
            x.add(azimuths[day - 1], 4500, 1440 * day - times[day - 1], 43200, 100, 1);
            x.gust(day, 60);
            Check.pass(x, 1440 * day - 1);
            Check.due(x.target(0, 8), 1440 * day);
            x.run(1);
            Check.due(x.axis(0, 4), 40 * (day - 1));
            Check.due(x.target(0, 11), 1);
            x.run(1);
            Check.due(x.axis(0, 4), 40 * (day - 1));
        }
    }

    private static void holdAheadOfMissed() {
        Check.sentence("A hold begins ahead of all this at its first minute.");
        int[] ends = {1440, 1441};
        for (int end : ends) {
            DishPointer x = withTarget(1407, end, end - 1423);
            x.gust(1, 60);
            x.run(1439);
            Check.due(x.target(0, 6), 1);
            Check.due(x.run(1), 0);
            Check.due(x.target(0, 11), 1);
            Check.due(x.target(0, 6), end == 1440 ? 3 : 0);
            x.run(1);
            Check.due(x.target(0, 6), 3);
        }
    }

    private static void holdAheadOfBegun() {
        Check.sentence("A hold begins ahead of all this at its first minute.");
        DishPointer x = withTarget(1440, 5000, 30);
        x.gust(1, 60);
        x.run(1440);
        Check.due(x.target(0, 6), 0);
        Check.due(x.target(0, 11), 0);
        Check.due(x.count(16), 0);
        x = withTarget(1439, 5000, 30);
        x.gust(1, 60);
        x.run(1440);
        Check.due(x.target(0, 6), 0);
        Check.due(x.target(0, 11), 1);
        Check.due(x.count(16), 1);
    }

    private static void endOfHold() {
        Check.sentence("3 the day is a hold");
        DishPointer x = withTarget(0, 1486, 30);
        x.gust(0, 60);
        x.run(1439);
        Check.due(x.target(0, 6), 0);
        Check.due(x.run(1), 0);
        Check.due(x.target(0, 7), 1440);
        Check.due(x.run(46), 1);
        x = withTarget(0, 1485, 30);
        x.gust(0, 60);
        x.run(1440);
        Check.due(x.target(0, 6), 0);
        Check.due(x.why(0), 7);
    }

    private static void lastMinuteOfAll() {
        Check.sentence("Time begins with 0, and is at most 43200.");
        DishPointer x = new DishPointer();
        x.add(9000, 4500, 43154, 43200, 30, 1);
        x.add(9000, 4500, 43199, 43200, 1, 0);
        x.add(9000, 4500, 43155, 43200, 30, 0);
        Check.pass(x, 43153);
        Check.dueFrom(0, (dish, number) -> dish.target(number, 6), x, 0, 0, 0);
        x.run(1);
        Check.due(x.target(0, 9), 43200);
        x.run(45);
        Check.dueFrom(0, (dish, number) -> dish.target(number, 6), x, 1, 0, 0);
        Check.due(x.ifRun(1), 1);
        Check.due(x.run(1), 1);
        Check.dueFrom(0, (dish, number) -> dish.target(number, 6), x, 2, 3, 3);
        Check.due(x.run(0), 0);
        Check.due(x.run(1), Check.LIMIT);
    }

    private static void promise16Ranges() {
        Check.sentence("- `minutes`: 0 to 2000; 0 does what is to be done at the present minute");
        Check.dueRange((x, minutes) -> x.run(minutes), 0, 2000);
        DishPointer x = withTarget(0, 3000, 30);
        Check.due(x.run(-1), Check.INVALID);
        Check.due(x.run(2001), Check.INVALID);
        Check.due(x.target(0, 6), 0);
        Check.due(x.count(0), 0);
        Check.due(x.run(2000), 1);
        Check.due(x.count(0), 2000);
    }

    private static void promise16Became() {
        Check.sentence("Returns how many targets became done");
        DishPointer x = withTarget(0, 200, 30);
        x.add(9000, 4500, 0, 200, 30, 0);
        x.add(9000, 4500, 0, 10, 30, 0);
        Check.due(x.run(45), 0);
        Check.due(x.run(1), 1);
        Check.due(x.run(0), 0);
        Check.due(x.run(29), 0);
        Check.due(x.run(100), 1);
        Check.due(x.run(100), 0);
        Check.due(x.count(6), 2);
        x.undo();
        x.undo();
        Check.due(x.run(2000), 1);
    }

    private static void promise16Limit() {
        Check.sentence("LIMIT_REACHED if the time would be greater than 43200.");
        DishPointer x = new DishPointer();
        Check.pass(x, 41200);
        Check.due(x.run(2000), 0);
        Check.due(x.count(0), 43200);
        x.undo();
        x.run(1);
        Check.due(x.run(2000), Check.LIMIT);
        Check.due(x.ifRun(2000), Check.LIMIT);
        Check.due(x.run(2001), Check.INVALID);
        Check.due(x.ifRun(2001), Check.INVALID);
        Check.due(x.run(-1), Check.INVALID);
        Check.due(x.ifRun(-1), Check.INVALID);
        Check.due(x.count(0), 41201);
        Check.due(x.ifRun(1999), 0);
        Check.due(x.run(1999), 0);
        Check.due(x.run(1), Check.LIMIT);
        Check.due(x.ifRun(1), Check.LIMIT);
        Check.due(x.run(0), 0);
        Check.due(x.ifRun(0), 0);
    }

    private static void promise16Nought() {
        Check.sentence("0 does what is to be done at the present minute");
        DishPointer x = withTarget(0, 200, 30);
        Check.due(x.target(0, 6), 0);
        Check.due(x.run(0), 0);
        Check.due(x.target(0, 6), 1);
        Check.due(x.count(0), 0);
        Check.due(x.run(0), 0);
        Check.due(x.count(16), 1);
        Check.due(x.target(0, 7), 0);
        Check.due(x.count(10), 3);
    }

    private static void promise17Ranges() {
        Check.sentence("Tells how many targets would be done behind minutes. Nothing changes.\n\n"
            + "- `minutes`: 0 to 2000");
        Check.dueRange((x, minutes) -> x.ifRun(minutes), 0, 2000);
    }

    private static void promise17AllDone() {
        Check.sentence("Returns the number of all done ones then");
        DishPointer x = withTarget(0, 200, 30);
        x.add(9000, 4500, 0, 200, 30, 0);
        Check.due(x.ifRun(0), 0);
        Check.due(x.ifRun(45), 0);
        Check.due(x.ifRun(46), 1);
        Check.due(x.ifRun(75), 1);
        Check.due(x.ifRun(76), 2);
        Check.due(x.ifRun(2000), 2);
        x.run(46);
        Check.due(x.ifRun(0), 1);
        Check.due(x.ifRun(29), 1);
        Check.due(x.ifRun(30), 2);
        x.run(30);
        Check.due(x.ifRun(0), 2);
    }

    private static void promise17HoldAndLimit() {
        Check.sentence("INVALID_ARGUMENT if minutes is out of range; "
            + "LIMIT_REACHED if the time would be greater than 43200.");
        DishPointer x = withTarget(1400, 1500, 24);
        Check.due(x.ifRun(1439), 0);
        Check.due(x.ifRun(1440), 1);
        x.gust(1, 60);
        Check.due(x.ifRun(1440), 0);
        Check.due(x.ifRun(2000), 0);
        Check.pass(x, 43199);
        Check.due(x.ifRun(1), 0);
        Check.due(x.ifRun(2), Check.LIMIT);
        Check.due(x.ifRun(2000), Check.LIMIT);
        Check.due(x.ifRun(2001), Check.INVALID);
    }

    private static void promise17NothingChanges() {
        Check.sentence("Tells how many targets would be done behind minutes. Nothing changes.");
        DishPointer asked = withTarget(0, 200, 30);
        DishPointer other = withTarget(0, 200, 30);
        for (DishPointer x : new DishPointer[] {asked, other}) {
            x.gust(0, 30);
            x.gust(1, 60);
            x.add(9000, 4500, 1400, 43200, 600, 0);
            x.run(10);
        }
        int[] minutes = {0, 6, 36, 1430, 2000, -1, 2001};
        int[] answers = {0, 0, 1, 1, 1, Check.INVALID, Check.INVALID};
        for (int i = 0; i < minutes.length; i++) {
            Check.due(asked.ifRun(minutes[i]), answers[i]);
        }
        Check.dueSame("a dish that was asked", asked, other);
    }
}
