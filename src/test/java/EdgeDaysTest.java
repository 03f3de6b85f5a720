/** The sentences under "Days and gusts" that name an edge, and promises 1, 2, 4 and 5. */
public final class EdgeDaysTest {
    private static final int NONE = Check.NOT_FOUND;

    public static void main(String[] args) {
        timeBegins();
        timeEnds();
        daysHaveMinutes();
        daysAreRoundedDown();
        dayThirty();
        gusts();
        limits();
        kindsOfDay();
        kindsAtTheEndsOfTheLimits();
        holdGoesAheadOfPush();
        pushedByDay();
        pushedByTheDayOfTheEnd();
        notPushed();
        holdBegins();
        holdBeginsFromHold();
        holdBeginsOnDayThirty();
        holdOtherwiseByGust();
        holdOtherwiseByLimit();
        holdOtherwiseLeavesTheTarget();
        brokenOff();
        brokenOffTwice();
        brokenOffInItsSlew();
        elevationGoesUp();
        promise1NewObject();
        promise2Ranges();
        promise4Ranges();
        promise4Past();
        promise5Ranges();
        promise5KindOfDay();
        promise5Counts();
        promise5Targets();
        promise5UntilDone();
        promise5Azimuth();
        Check.end();
    }

    private static void timeBegins() {
        Check.sentence("Time begins with 0, and is at most 43200.");
        DishPointer x = new DishPointer();
        Check.dueFrom(0, (dish, what) -> dish.count(what), x, 0, 0, 0, 2);
        x.run(0);
        Check.due(x.count(0), 0);
        x.run(1);
        Check.due(x.count(0), 1);
    }

    private static void timeEnds() {
        Check.sentence("Time begins with 0, and is at most 43200.");
        DishPointer x = new DishPointer();
        Check.pass(x, 43199);
        Check.due(x.count(0), 43199);
        Check.due(x.run(2), Check.LIMIT);
        Check.due(x.ifRun(2), Check.LIMIT);
        Check.due(x.ifRun(1), 0);
        Check.due(x.run(1), 0);
        Check.due(x.count(0), 43200);
        Check.due(x.run(1), Check.LIMIT);
        Check.due(x.run(2000), Check.LIMIT);
        Check.due(x.ifRun(1), Check.LIMIT);
        Check.due(x.run(2001), Check.INVALID);
        Check.due(x.ifRun(0), 0);
        Check.due(x.run(0), 0);
        Check.due(x.count(0), 43200);
    }

    private static void daysHaveMinutes() {
        Check.sentence("The day d has the minutes 1440 * d to 1440 * d + 1439, for d from 0 to 29");
        DishPointer x = new DishPointer();
        for (int day = 0; day < 30; day++) {
            x.gust(day, 1 + day);
        }
        for (int day = 0; day < 30; day++) {
            Check.dueFrom(0, (dish, what) -> dish.count(what), x, 1440 * day, day, 1 + day);
            x.run(1439);
            Check.dueFrom(0, (dish, what) -> dish.count(what), x, 1440 * day + 1439, day, 1 + day);
            x.run(1);
        }
        Check.dueFrom(0, (dish, what) -> dish.count(what), x, 43200, 30, 0);
    }

    private static void daysAreRoundedDown() {
        Check.sentence("divisions are rounded down, if nothing else is said");
        int[] minutes = {0, 1, 719, 720, 1439, 1440, 1441, 2000};
        int[] days = {0, 0, 0, 0, 0, 1, 1, 1};
        for (int i = 0; i < minutes.length; i++) {
            DishPointer x = new DishPointer();
            x.run(minutes[i]);
            Check.due("the day of the minute " + minutes[i], x.count(1), days[i]);
        }
    }

    private static void dayThirty() {
        Check.sentence("(and 30, whose gust is always 0)");
        DishPointer x = new DishPointer();
        x.gust(29, 99);
        Check.due(x.gust(30, 0), Check.INVALID);
        Check.due(x.gust(30, 50), Check.INVALID);
        Check.pass(x, 43199);
        Check.dueFrom(0, (dish, what) -> dish.count(what), x, 43199, 29, 99, 0);
        x.run(1);
        Check.dueFrom(0, (dish, what) -> dish.count(what), x, 43200, 30, 0, 2);
        Check.due(x.gust(30, 50), Check.INVALID);
        Check.due(x.gust(29, 50), Check.NOT_POSSIBLE);
        Check.due(x.count(2), 0);
        x.set(2, 0);
        Check.due(x.count(3), 1);
        x.set(3, 0);
        Check.due(x.count(3), 0);
    }

    private static void gusts() {
        Check.sentence("Each day has a gust (0 to 99, initially 0).");
        Check.dueRange((x, gust) -> x.gust(0, gust), 0, 99);
        Check.dueRange((x, gust) -> x.gust(29, gust), 0, 99);
        DishPointer x = new DishPointer();
        for (int day = 0; day < 30; day++) {
            Check.due(x.gust(day, day), 0);
        }
        for (int day = 0; day < 30; day++) {
            Check.due(x.gust(day, 99), day);
        }
        Check.due(x.count(2), 99);
        x.gust(0, 0);
        Check.due(x.count(2), 0);
    }

    private static void limits() {
        Check.sentence("There is a push limit (0 to 100, initially 30) and a hold limit (0 to 100, initially 60).");
        Check.dueFrom(14, (x, what) -> x.count(what), new DishPointer(), 30, 60);
        Check.dueRange((x, limit) -> x.set(2, limit), 0, 100);
        Check.dueRange((x, limit) -> x.set(3, limit), 0, 100);
        DishPointer x = new DishPointer();
        x.set(2, 100);
        Check.dueFrom(14, (dish, what) -> dish.count(what), x, 100, 60);
        x.set(3, 0);
        Check.dueFrom(14, (dish, what) -> dish.count(what), x, 100, 0);
    }

    private static void kindsOfDay() {
        Check.sentence("A day with a gust of at least the hold limit is a hold; "
            + "otherwise, one with a gust of at least the push limit is a push.");
        int[] gusts = {0, 29, 30, 31, 59, 60, 61, 99};
        int[] kinds = {2, 2, 1, 1, 1, 0, 0, 0};
        DishPointer x = new DishPointer();
        for (int i = 0; i < gusts.length; i++) {
            x.gust(0, gusts[i]);
            Check.due("the kind of a day with the gust " + gusts[i], x.count(3), kinds[i]);
        }
    }

    private static void kindsAtTheEndsOfTheLimits() {
        Check.sentence("A day with a gust of at least the hold limit is a hold; "
            + "otherwise, one with a gust of at least the push limit is a push.");
        DishPointer x = new DishPointer();
        x.gust(0, 99);
        x.set(3, 100);
        Check.due(x.count(3), 1);
        x.set(2, 100);
        Check.due(x.count(3), 2);
        x.set(2, 99);
        Check.due(x.count(3), 1);
        x.set(3, 99);
        Check.due(x.count(3), 0);
        x.gust(0, 0);
        Check.due(x.count(3), 2);
        x.set(2, 0);
        Check.due(x.count(3), 1);
        x.set(3, 0);
        Check.due(x.count(3), 0);
        x.set(3, 1);
        x.set(2, 1);
        Check.due(x.count(3), 2);
    }

    private static void holdGoesAheadOfPush() {
        Check.sentence("is a hold; otherwise, one with a gust of at least the push limit is a push");
        DishPointer x = new DishPointer();
        x.gust(0, 50);
        x.set(3, 50);
        x.set(2, 50);
        Check.due(x.count(3), 0);
        x.set(3, 51);
        Check.due(x.count(3), 1);
        // A push limit above the hold limit: no day is a push.
        x.set(2, 60);
        x.set(3, 40);
        Check.due(x.count(3), 0);
        x.gust(0, 39);
        Check.due(x.count(3), 2);
        x.gust(0, 60);
        Check.due(x.count(3), 0);
    }

    private static DishPointer onDay(int day) {
        DishPointer x = new DishPointer();
        Check.pass(x, 1440 * day);
        return x;
    }

    private static void pushedByDay() {
        Check.sentence("on an even day the slack becomes 0, on an odd day the play");
        for (int day : new int[] {0, 1, 2, 3, 28, 29}) {
            // From below the slack is the play, from above it is 0.
            for (int azimuth : new int[] {9000, 27000}) {
                DishPointer x = onDay(day);
                x.gust(day, 30);
                x.add(azimuth, 4500, 0, 43200, 30, 0);
                x.run(60);
                Check.due(x.target(0, 6), 2);
                int slack = day % 2 == 0 ? 0 : 40;
                Check.due("slack on day " + day, x.axis(0, 4), slack);
                Check.due(x.target(0, 10), azimuth == 9000 ? 40 - slack : -slack);
                Check.due(x.axis(1, 4), 0);
            }
        }
    }

    private static void pushedByTheDayOfTheEnd() {
        Check.sentence("When a slew of a target is finished on a push, the dish is pushed in azimuth");
        // The slew to 27000 takes 15 minutes; the days 0 and 1 push to different sides.
        int[] begins = {1423, 1424, 1425};
        int[] slacks = {0, 0, 40};
        for (int i = 0; i < begins.length; i++) {
            DishPointer x = new DishPointer();
            x.gust(0, 30);
            x.gust(1, 30);
            x.add(27000, 4500, begins[i], 43200, 30, 0);
            x.run(begins[i] + 14);
            Check.due(x.target(0, 7), begins[i]);
            Check.due(x.axis(0, 4), 0);
            x.run(1);
            Check.due("the slack, begun at " + begins[i], x.axis(0, 4), slacks[i]);
        }
        // Only one of the two days pushes: the one in which the slew is finished counts.
        for (int push = 0; push < 2; push++) {
            DishPointer x = new DishPointer();
            x.gust(push, 30);
            x.add(27000, 4500, 1425, 43200, 30, 0);
            x.run(1450);
            Check.due(x.axis(0, 4), push == 1 ? 40 : 0);
        }
    }

    private static void notPushed() {
        Check.sentence("When a slew of a target is finished on a push, the dish is pushed in azimuth");
        int[] gusts = {29, 30, 59};
        int[] slacks = {40, 0, 0};
        for (int i = 0; i < gusts.length; i++) {
            DishPointer x = new DishPointer();
            x.gust(0, gusts[i]);
            x.add(9000, 4500, 0, 200, 30, 0);
            x.run(46);
            Check.due("slack with the gust " + gusts[i], x.axis(0, 4), slacks[i]);
            Check.due(x.target(0, 10), 40 - slacks[i]);
        }
        // The slew of no target is not pushed, nor a target that was only begun.
        DishPointer x = new DishPointer();
        x.gust(0, 30);
        x.slew(9000, 4500);
        x.run(100);
        Check.due(x.axis(0, 4), 40);
        x.add(12000, 4500, 0, 200, 30, 0);
        x.run(4);
        Check.due(x.target(0, 8), 105);
        Check.due(x.axis(0, 4), 40);
        x.run(1);
        Check.due(x.axis(0, 4), 0);
    }

    private static void holdBegins() {
        Check.sentence("When a hold begins (the time comes to its first minute from the day before");
        DishPointer x = new DishPointer();
        x.gust(1, 60);
        x.slew(0, 5000);
        x.run(1439);
        Check.due(x.count(17), 0);
        Check.due(x.count(3), 2);
        Check.due(x.axis(1, 3), 5000);
        x.run(1);
        Check.due(x.count(17), 1);
        Check.due(x.count(3), 0);
        Check.due(x.axis(1, 3), 9000);
        x.run(0);
        Check.due(x.count(17), 1);
        x.run(1439);
        Check.due(x.count(17), 1);
        x.run(1);
        Check.due(x.count(17), 1);
        Check.due(x.count(3), 2);
        // The same in one run.
        x = new DishPointer();
        x.gust(1, 60);
        x.run(2000);
        Check.due(x.count(17), 1);
        x = new DishPointer();
        x.gust(1, 59);
        x.run(2000);
        Check.due(x.count(17), 0);
    }

    private static void holdBeginsFromHold() {
        Check.sentence("from the day before, which may be a hold, too");
        DishPointer x = new DishPointer();
        for (int day = 0; day < 4; day++) {
            x.gust(day, 60);
        }
        x.run(0);
        Check.due(x.count(17), 0);
        for (int day = 1; day < 4; day++) {
            x.run(1439);
            Check.due(x.count(17), day - 1);
            x.run(1);
            Check.due(x.count(17), day);
        }
        x.run(1440);
        Check.due(x.count(17), 3);
    }

    private static void holdBeginsOnDayThirty() {
        Check.sentence("(and 30, whose gust is always 0)");
        DishPointer x = new DishPointer();
        Check.pass(x, 43199);
        x.slew(0, 5000);
        x.set(3, 0);
        Check.due(x.count(17), 0);
        x.run(1);
        Check.due(x.count(17), 1);
        Check.due(x.axis(1, 3), 9000);
        x.run(0);
        Check.due(x.count(17), 1);
    }

    private static void holdOtherwiseByGust() {
        Check.sentence("a day that becomes a hold otherwise is one at once, but none begins");
        // Day 0 has no day before it; day 1 has come already.
        for (int day = 0; day < 2; day++) {
            DishPointer x = onDay(day);
            x.slew(0, 5000);
            Check.due(x.gust(day, 60), 0);
            Check.due(x.count(3), 0);
            Check.due(x.slew(0, 6000), Check.NOT_POSSIBLE);
            x.run(0);
            x.run(1439);
            Check.due(x.count(3), 0);
            Check.due(x.count(17), 0);
            Check.due(x.axis(1, 3), 5000);
            x.run(1);
            Check.due(x.count(3), 2);
            Check.due(x.count(17), 0);
        }
    }

    private static void holdOtherwiseByLimit() {
        Check.sentence("a day that becomes a hold otherwise is one at once, but none begins");
        DishPointer x = new DishPointer();
        x.slew(0, 5000);
        x.gust(1, 60);
        x.set(3, 61);
        x.run(1440);
        Check.due(x.count(3), 1);
        Check.due(x.count(17), 0);
        x.set(3, 60);
        Check.due(x.count(3), 0);
        Check.due(x.count(17), 0);
        x.run(0);
        Check.due(x.count(17), 0);
        Check.due(x.axis(1, 3), 5000);
        // It ends and comes back within its day: none begins again.
        x = new DishPointer();
        x.gust(1, 60);
        x.run(1440);
        x.set(3, 61);
        x.run(0);
        x.set(3, 60);
        x.run(0);
        x.run(5);
        Check.due(x.count(3), 0);
        Check.due(x.count(17), 1);
    }

    private static void holdOtherwiseLeavesTheTarget() {
        Check.sentence("a day that becomes a hold otherwise is one at once, but none begins");
        DishPointer x = new DishPointer();
        x.add(9000, 4500, 0, 5000, 30, 1);
        x.add(9000, 4500, 0, 5000, 30, 0);
        x.run(0);
        x.gust(0, 60);
        Check.due(x.count(3), 0);
        Check.due(x.run(45), 0);
        Check.due(x.target(0, 6), 1);
        Check.due(x.run(1), 1);
        Check.due(x.target(0, 11), 0);
        Check.due(x.target(0, 10), 0);
        // The next one waits for the end of the hold, which is no begin of one.
        Check.due(x.count(8), NONE);
        Check.due(x.why(1), 3);
        x.run(1393);
        Check.due(x.count(8), NONE);
        x.run(1);
        Check.due(x.count(8), 1);
        Check.due(x.count(17), 0);
    }

    private static void brokenOff() {
        Check.sentence("the target that is under way, if there is one, is broken off: it waits again");
        DishPointer x = new DishPointer();
        x.gust(1, 60);
        x.gust(2, 60);
        x.add(9000, 4500, 1400, 5000, 100, 1);
        x.add(9000, 4500, 3000, 5000, 100, 1);
        x.run(1439);
        Check.dueFrom(6, (dish, what) -> dish.target(0, what), x, 1, 1400, 1416, 1516, NONE, 0, 9000);
        Check.due(x.run(1), 0);
        Check.dueFrom(6, (dish, what) -> dish.target(0, what), x, 0, NONE, NONE, NONE, NONE, 1, NONE);
        Check.dueFrom(6, (dish, what) -> dish.target(1, what), x, 0, NONE, NONE, NONE, NONE, 0, NONE);
        Check.dueFrom(5, (dish, what) -> dish.count(what), x, 2, 0, 0, NONE, NONE);
        Check.due(x.count(16), 1);
        // The hold that follows finds none under way.
        x.run(1440);
        Check.due(x.target(0, 11), 1);
        Check.due(x.count(17), 2);
        x.run(1440);
        Check.due(x.target(0, 7), 4320);
    }

    private static void brokenOffTwice() {
        Check.sentence("the target that is under way, if there is one, is broken off: it waits again");
        DishPointer x = new DishPointer();
        x.gust(1, 60);
        x.gust(2, 60);
        x.gust(3, 60);
        x.add(9000, 4500, 1400, 43200, 100, 1);
        Check.pass(x, 4300);
        Check.due(x.target(0, 11), 1);
        // Day 2 is no hold for as long as the target needs to be begun.
        x.set(3, 100);
        x.run(0);
        x.set(3, 60);
        x.run(19);
        Check.due(x.target(0, 6), 1);
        Check.due(x.target(0, 7), 4300);
        x.run(1);
        Check.dueFrom(6, (dish, what) -> dish.target(0, what), x, 0, NONE, NONE, NONE, NONE, 2, NONE);
        Check.due(x.count(17), 3);
    }

    private static void brokenOffInItsSlew() {
        Check.sentence("if its slew was not finished, the motors stand at the end of the slew all the same, "
            + "without a push");
        // The slew to 9000 takes 16 minutes.
        int[] begins = {1423, 1424, 1425, 1439};
        for (int begin : begins) {
            DishPointer x = new DishPointer();
            x.gust(1, 60);
            x.add(9000, 4500, begin, 5000, 100, 1);
            x.run(1439);
            Check.due(x.target(0, 8), begin + 16);
            x.set(2, 0);
            x.run(1);
            Check.dueFrom(3, (dish, what) -> dish.axis(0, what), x, 9040, 40, 9000, 9040, 0, 9040);
            Check.dueFrom(3, (dish, what) -> dish.axis(1, what), x, 9000, 20, 8980, 4500, 4500, 9000);
            x.run(40);
            Check.due(x.axis(0, 4), 40);
        }
        // Neither the slack 0 on an odd day nor the slack 40 on an even one is pushed away.
        int[] days = {1, 2};
        int[] azimuths = {27000, 9000};
        for (int i = 0; i < 2; i++) {
            DishPointer x = new DishPointer();
            x.gust(days[i], 60);
            x.add(azimuths[i], 4500, 1440 * days[i] - 5, 43200, 100, 1);
            Check.pass(x, 1440 * days[i] - 1);
            int slack = 40 * i;
            Check.due(x.target(0, 6), 1);
            Check.due(x.axis(0, 4), slack);
            x.run(1);
            Check.due(x.target(0, 11), 1);
            Check.due(x.axis(0, 4), slack);
            x.run(1439);
            Check.due(x.axis(0, 4), slack);
        }
    }

    private static void elevationGoesUp() {
        Check.sentence("Then the elevation motor goes up to 9000.");
        int[] elevations = {500, 8999, 9000};
        for (int elevation : elevations) {
            DishPointer x = new DishPointer();
            x.gust(1, 60);
            x.slew(0, elevation);
            x.run(1439);
            Check.dueFrom(6, (dish, what) -> dish.axis(1, what), x, 0, 9000 - elevation);
            x.run(1);
            Check.due(x.axis(1, 3), 9000);
            Check.dueFrom(6, (dish, what) -> dish.axis(1, what), x, 9000 - elevation, 9000 - elevation, 9000);
            Check.due(x.axis(0, 3), 0);
            Check.due(x.count(16), 1);
        }
        // Each hold leads it up, as often as one begins.
        DishPointer often = new DishPointer();
        for (int day = 1; day <= 9; day += 2) {
            often.gust(day, 60);
            often.slew(0, 5000);
            often.run(1440);
            Check.due(often.axis(1, 3), 9000);
            Check.due(often.count(17), (day + 1) / 2);
            often.run(1440);
        }
        // The side of the elevation does not matter.
        DishPointer x = new DishPointer();
        x.gust(1, 60);
        x.slew(0, 5000);
        x.setAxis(1, 1, 2);
        x.run(1440);
        Check.dueFrom(3, (dish, what) -> dish.axis(1, what), x, 9000, 20, 8980, 4000, 4000);
    }

    private static void promise1NewObject() {
        Check.sentence("Creates a dish that stands at the azimuth 0 and the elevation 9000, "
            + "without targets, at the time 0.");
        DishPointer x = new DishPointer();
        Check.dueFrom(0, (dish, what) -> dish.count(what), x,
            0, 0, 0, 2, 0, 0, 0, 0, NONE, NONE, 0, 0, 100, 18000, 30, 60, 0, 0, 0);
        Check.due(x.axis(0, 5), 0);
        Check.due(x.axis(1, 5), 9000);
        Check.due(x.isWound(), 0);
        // What one dish does is not told by another.
        x.run(5);
        x.slew(9000, 5000);
        x.type('a');
        Check.dueSame("a new dish", new DishPointer(), new DishPointer());
        Check.due(new DishPointer().count(0), 0);
        Check.due(new DishPointer().count(11), 0);
    }

    private static void promise2Ranges() {
        Check.sentence("- `what`: 0: the overshoot (0 to 500); 1: the wind W (0 to 27000); "
            + "2: the push limit (0 to 100); 3: the hold limit (0 to 100)\n- `value`: a value in its range");
        int[] most = {500, 27000, 100, 100};
        int[] first = {100, 18000, 30, 60};
        Check.dueRange((x, what) -> x.set(what, 50), 0, 3);
        for (int what = 0; what < 4; what++) {
            int same = what;
            Check.dueRange((x, value) -> x.set(same, value), 0, most[what]);
            DishPointer x = new DishPointer();
            Check.due(x.set(what, most[what]), first[what]);
            Check.due(x.set(what, most[what] + 1), Check.INVALID);
            Check.due(x.count(12 + what), most[what]);
            Check.due(x.set(what, 0), most[what]);
            Check.due(x.set(what, -1), Check.INVALID);
            Check.due(x.count(12 + what), 0);
            Check.due(x.set(what, 0), 0);
        }
    }

    private static void promise4Ranges() {
        Check.sentence("- `day`: 0 to 29\n- `gust`: 0 to 99\n\nReturns the previous gust");
        Check.dueRange((x, day) -> x.gust(day, 50), 0, 29);
        Check.dueRange((x, gust) -> x.gust(15, gust), 0, 99);
        DishPointer x = new DishPointer();
        Check.due(x.gust(29, 99), 0);
        Check.due(x.gust(29, 0), 99);
        Check.due(x.gust(29, 0), 0);
        Check.due(x.gust(28, 1), 0);
    }

    private static void promise4Past() {
        Check.sentence("NOT_POSSIBLE if the first minute of the day is before the present time.");
        DishPointer x = new DishPointer();
        Check.due(x.gust(0, 1), 0);
        x.run(1);
        Check.due(x.gust(0, 2), Check.NOT_POSSIBLE);
        Check.due(x.count(2), 1);
        x.run(1438);
        Check.due(x.gust(0, 2), Check.NOT_POSSIBLE);
        Check.due(x.gust(1, 2), 0);
        x.run(1);
        Check.due(x.gust(0, 2), Check.NOT_POSSIBLE);
        Check.due(x.gust(1, 3), 2);
        x.run(1);
        Check.due(x.gust(1, 4), Check.NOT_POSSIBLE);
        Check.due(x.gust(1, 100), Check.INVALID);
        Check.due(x.gust(-1, 0), Check.INVALID);
        Check.pass(x, 41760 - 1441);
        Check.due(x.gust(28, 1), Check.NOT_POSSIBLE);
        Check.due(x.gust(29, 1), 0);
        x.run(1);
        Check.due(x.gust(29, 2), Check.NOT_POSSIBLE);
        Check.due(x.gust(30, 2), Check.INVALID);
        Check.pass(x, 1439);
        Check.due(x.count(0), 43200);
        for (int day = 0; day < 30; day++) {
            Check.due(x.gust(day, 0), Check.NOT_POSSIBLE);
        }
    }

    private static void promise5Ranges() {
        Check.sentence("Returns the number; INVALID_ARGUMENT if what is out of range; "
            + "NOT_FOUND for 8 and 9 if there is none.");
        Check.dueRange((x, what) -> x.count(what), 0, 18);
        Check.dueFrom(-1, (x, what) -> x.count(what), new DishPointer(), Check.INVALID, 0);
        Check.dueFrom(18, (x, what) -> x.count(what), new DishPointer(), 0, Check.INVALID);
        Check.dueFrom(8, (x, what) -> x.count(what), new DishPointer(), NONE, NONE, 0);
    }

    private static void promise5KindOfDay() {
        Check.sentence("3: 0 if it is a hold, 1 if it is a push, otherwise 2");
        DishPointer x = new DishPointer();
        x.gust(0, 29);
        x.gust(1, 30);
        x.gust(2, 60);
        Check.dueFrom(1, (dish, what) -> dish.count(what), x, 0, 29, 2);
        x.run(1439);
        Check.dueFrom(1, (dish, what) -> dish.count(what), x, 0, 29, 2);
        x.run(1);
        Check.dueFrom(1, (dish, what) -> dish.count(what), x, 1, 30, 1);
        x.run(1440);
        Check.dueFrom(1, (dish, what) -> dish.count(what), x, 2, 60, 0);
        x.run(1440);
        Check.dueFrom(1, (dish, what) -> dish.count(what), x, 3, 0, 2);
    }

    private static void promise5Counts() {
        Check.sentence("10: states in the history; 11: the length of the text; 12 to 15: the settings 0 to 3; "
            + "16: slews (of targets that were begun, and by slew); 17: holds that have begun");
        DishPointer x = new DishPointer();
        Check.dueFrom(10, (dish, what) -> dish.count(what), x, 0, 0, 100, 18000, 30, 60, 0, 0);
        x.set(0, 1);
        x.set(1, 2);
        x.set(2, 3);
        x.set(3, 99);
        x.type('x');
        Check.dueFrom(10, (dish, what) -> dish.count(what), x, 4, 1, 1, 2, 3, 99, 0, 0);
        x.slew(0, 9000);
        x.add(9000, 4500, 0, 200, 30, 1);
        Check.due(x.slew(0, 9001), Check.INVALID);
        Check.due(x.count(16), 1);
        x.run(0);
        Check.due(x.count(16), 2);
        x.run(2000);
        Check.due(x.count(16), 2);
        x.gust(2, 99);
        x.gust(3, 99);
        x.run(2000);
        Check.dueFrom(10, (dish, what) -> dish.count(what), x, 5, 1, 1, 2, 3, 99, 2, 1);
        x.run(2000);
        Check.dueFrom(10, (dish, what) -> dish.count(what), x, 5, 1, 1, 2, 3, 99, 2, 2);
    }

    private static void promise5Targets() {
        Check.sentence("4: targets; 5: waiting ones; 6: done ones; 7: missed ones; 8: the target under way");
        DishPointer x = new DishPointer();
        Check.dueFrom(4, (dish, what) -> dish.count(what), x, 0, 0, 0, 0, NONE);
        for (int number = 0; number < 10; number++) {
            x.add(0, 8500, 0, number < 9 ? 10 : 100, 1 + number, 9 - number);
            Check.dueFrom(4, (dish, what) -> dish.count(what), x, number + 1, number + 1, 0, 0, NONE);
        }
        x.run(0);
        Check.dueFrom(4, (dish, what) -> dish.count(what), x, 10, 9, 0, 0, 0);
        // The numbers 0 to 2 are done at 3, 5 and 8; then only the number 9 has the time.
        x.run(7);
        Check.dueFrom(4, (dish, what) -> dish.count(what), x, 10, 7, 2, 0, 2);
        x.run(1);
        Check.dueFrom(4, (dish, what) -> dish.count(what), x, 10, 6, 3, 0, 9);
        x.run(2);
        Check.dueFrom(4, (dish, what) -> dish.count(what), x, 10, 0, 3, 6, 9);
        x.run(10);
        Check.dueFrom(4, (dish, what) -> dish.count(what), x, 10, 0, 4, 6, NONE);
    }

    private static void promise5UntilDone() {
        Check.sentence("9: the minutes until it is done");
        DishPointer x = new DishPointer();
        x.add(9000, 4500, 10, 56, 30, 1);
        x.run(9);
        Check.due(x.count(9), NONE);
        x.run(1);
        Check.due(x.count(9), 46);
        x.run(45);
        Check.due(x.count(9), 1);
        x.run(1);
        Check.due(x.count(9), NONE);
        Check.due(x.target(0, 6), 2);
        x = new DishPointer();
        x.add(9000, 4500, 0, 700, 600, 1);
        x.run(0);
        Check.due(x.count(9), 616);
    }

    private static void promise5Azimuth() {
        Check.sentence("18: the azimuth of the dish, from 0 to 35999");
        DishPointer x = new DishPointer();
        int[] azimuths = {0, 1, 35999, 0, 35998, 9000, 17999, 18000, 27000, 35999, 1};
        for (int azimuth : azimuths) {
            x.slew(azimuth, 9000);
            Check.due(x.count(18), azimuth);
        }
        // At both ends of the range of the motor.
        x.set(1, 27000);
        x.slew(9000, 9000);
        x.slew(18000, 9000);
        x.slew(26960, 9000);
        Check.due(x.axis(0, 5), 26960);
        Check.due(x.count(18), 26960);
        x = new DishPointer();
        x.set(1, 27000);
        x.slew(18000, 9000);
        Check.due(x.axis(0, 5), -18000);
        Check.due(x.count(18), 18000);
        x.slew(9000, 9000);
        Check.due(x.axis(0, 5), -27000);
        Check.due(x.count(18), 9000);
        // Across 0 by a push: the slack becomes the play.
        x = onDay(1);
        x.gust(1, 30);
        x.slew(0, 8500);
        x.add(0, 8500, 0, 43200, 5, 0);
        x.run(0);
        Check.due(x.axis(0, 5), -40);
        Check.due(x.count(18), 35960);
    }
}
