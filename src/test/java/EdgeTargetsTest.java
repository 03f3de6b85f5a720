/** The sentences under "Targets" that name an edge, and promises 11 to 15. */
public final class EdgeTargetsTest {
    private static final int NONE = Check.NOT_FOUND;

    public static void main(String[] args) {
        atMostTen();
        numberedInOrder();
        ranges();
        fromLessThanTo();
        states();
        reasonNotWaiting();
        reasonAnotherUnderWay();
        reasonHold();
        reasonBeforeWindow();
        reasonElevation();
        reasonAzimuth();
        reasonEndOfWindow();
        firstReason();
        begunAtOnce();
        slewFinishedBehindItsTime();
        slewFinishedAtOnce();
        doneBehindItsDwell();
        error();
        errorOfTheMinute();
        setWhileUnderWay();
        promise11Ranges();
        promise11Numbers();
        promise11Full();
        promise12Numbers();
        promise12Later();
        promise12LaterOfAllStates();
        promise12UnderWay();
        promise13Ranges();
        promise13NotFound();
        promise14Numbers();
        promise15None();
        promise15Window();
        promise15Order();
        noTargets();
        Check.end();
    }

    private static int addOne(DishPointer x) {
        return x.add(9000, 4500, 0, 200, 30, 1);
    }

    private static DishPointer withTargets(int number) {
        DishPointer x = new DishPointer();
        for (int i = 0; i < number; i++) {
            addOne(x);
        }
        return x;
    }

    private static void atMostTen() {
        Check.sentence("There are at most 10 targets");
        DishPointer x = withTargets(9);
        Check.due(addOne(x), 9);
        Check.due(x.count(4), 10);
        Check.due(addOne(x), Check.LIMIT);
        Check.due(x.count(4), 10);
        // Done ones and missed ones take room as well.
        x.run(200);
        Check.due(x.count(6) + x.count(7), 10);
        Check.due(addOne(x), Check.LIMIT);
        Check.due(x.drop(0), 9);
        Check.due(addOne(x), 9);
        Check.due(addOne(x), Check.LIMIT);
    }

    private static void numberedInOrder() {
        Check.sentence("numbered from 0 in the order in which they were added");
        DishPointer x = new DishPointer();
        for (int number = 0; number < 10; number++) {
            Check.due(x.add(9 - number, 500, 9 - number, 43200 - number, 1, number), number);
        }
        for (int number = 0; number < 10; number++) {
            Check.due(x.target(number, 0), 9 - number);
            Check.due(x.target(number, 5), number);
        }
        Check.due(x.target(-1, 0), Check.INVALID);
        Check.due(x.target(10, 0), Check.INVALID);
    }

    private static void ranges() {
        Check.sentence("A target has an azimuth (0 to 35999), an elevation (500 to 8500), a window from a minute to a "
            + "minute (0 to 43200, from less than to), a dwell (1 to 600) and a priority (0 to 9).");
        Check.dueRange((x, azimuth) -> x.add(azimuth, 4500, 0, 200, 30, 1), 0, 35999);
        Check.dueRange((x, elevation) -> x.add(9000, elevation, 0, 200, 30, 1), 500, 8500);
        Check.dueRange((x, from) -> x.add(9000, 4500, from, 43200, 30, 1), 0, 43199);
        Check.dueRange((x, to) -> x.add(9000, 4500, 0, to, 30, 1), 1, 43200);
        Check.dueRange((x, dwell) -> x.add(9000, 4500, 0, 200, dwell, 1), 1, 600);
        Check.dueRange((x, priority) -> x.add(9000, 4500, 0, 200, 30, priority), 0, 9);
        DishPointer x = new DishPointer();
        x.add(0, 500, 0, 1, 1, 0);
        x.add(35999, 8500, 43199, 43200, 600, 9);
        Check.dueFrom(0, (dish, what) -> dish.target(0, what), x, 0, 500, 0, 1, 1, 0);
        Check.dueFrom(0, (dish, what) -> dish.target(1, what), x, 35999, 8500, 43199, 43200, 600, 9);
    }

    private static void fromLessThanTo() {
        Check.sentence("(0 to 43200, from less than to)");
        DishPointer x = new DishPointer();
        Check.due(x.add(9000, 4500, 99, 100, 30, 1), 0);
        Check.due(x.add(9000, 4500, 100, 100, 30, 1), Check.INVALID);
        Check.due(x.add(9000, 4500, 101, 100, 30, 1), Check.INVALID);
        Check.due(x.add(9000, 4500, 0, 0, 30, 1), Check.INVALID);
        Check.due(x.add(9000, 4500, 43200, 43200, 30, 1), Check.INVALID);
        Check.due(x.add(9000, 4500, 43200, 43201, 30, 1), Check.INVALID);
        Check.due(x.add(9000, 4500, 43200, 0, 30, 1), Check.INVALID);
        Check.due(x.add(9000, 4500, -1, 0, 30, 1), Check.INVALID);
        Check.due(x.add(9000, 4500, 43199, 43200, 30, 1), 1);
    }

    private static void states() {
        Check.sentence("It waits (0), is under way (1), is done (2) or is missed (3).");
        DishPointer x = withTargets(1);
        x.add(9000, 4500, 0, 40, 30, 1);
        Check.due(x.target(0, 6), 0);
        Check.due(x.target(1, 6), 0);
        x.run(0);
        Check.due(x.target(0, 6), 1);
        x.run(45);
        Check.due(x.target(0, 6), 1);
        Check.due(x.target(1, 6), 3);
        x.run(1);
        Check.due(x.target(0, 6), 2);
    }

    private static void reasonNotWaiting() {
        Check.sentence("1 it does not wait");
        DishPointer x = withTargets(1);
        x.add(9000, 4500, 0, 40, 30, 1);
        Check.due(x.why(0), 0);
        x.run(0);
        Check.due(x.why(0), 1);
        x.run(39);
        Check.due(x.why(1), 2);
        x.run(1);
        Check.due(x.why(1), 1);
        x.run(6);
        Check.due(x.why(0), 1);
        // Neither a hold nor the end of the window goes ahead of it.
        x.set(3, 0);
        x.run(300);
        Check.due(x.why(0), 1);
        Check.due(x.why(1), 1);
    }

    private static void reasonAnotherUnderWay() {
        Check.sentence("2 another one is under way");
        DishPointer x = withTargets(2);
        Check.due(x.why(1), 0);
        x.run(0);
        Check.due(x.why(0), 1);
        Check.due(x.why(1), 2);
        x.run(45);
        Check.due(x.why(1), 2);
        x.add(0, 500, 0, 1, 1, 0);
        Check.due(x.why(2), 2);
        x.run(1);
        Check.due(x.count(8), 1);
        // At the minute at which one is broken off, none is under way.
        x = new DishPointer();
        x.gust(1, 60);
        x.add(9000, 4500, 1400, 5000, 100, 1);
        x.add(9000, 4500, 1400, 5000, 100, 0);
        x.run(1439);
        Check.due(x.why(1), 2);
        x.run(1);
        Check.due(x.why(0), 3);
        Check.due(x.why(1), 3);
    }

    private static void reasonHold() {
        Check.sentence("3 the day is a hold");
        DishPointer x = withTargets(1);
        x.gust(0, 59);
        Check.due(x.why(0), 0);
        x.gust(0, 60);
        Check.due(x.why(0), 3);
        x.set(3, 61);
        Check.due(x.why(0), 0);
        x = new DishPointer();
        x.gust(1, 60);
        x.add(9000, 4500, 2000, 43200, 30, 1);
        x.add(9000, 4500, 0, 1450, 30, 1);
        x.run(1439);
        Check.due(x.why(0), 4);
        x.run(1);
        Check.due(x.why(0), 3);
        x.run(1439);
        Check.due(x.why(0), 3);
        x.run(1);
        Check.due(x.why(0), 1);
        Check.due(x.target(0, 7), 2880);
    }

    private static void reasonBeforeWindow() {
        Check.sentence("4 the time is before its window");
        DishPointer x = new DishPointer();
        x.set(3, 0);
        x.add(9000, 4500, 1, 200, 30, 1);
        x.add(9000, 4500, 0, 200, 30, 1);
        x.add(9000, 4500, 100, 200, 30, 1);
        x.set(3, 60);
        Check.due(x.why(0), 4);
        Check.due(x.why(1), 0);
        x.set(3, 0);
        x.run(1);
        x.set(3, 60);
        Check.due(x.why(0), 0);
        Check.due(x.why(2), 4);
        x.set(3, 0);
        x.run(98);
        x.set(3, 60);
        Check.due(x.why(2), 4);
        x.set(3, 0);
        x.run(1);
        x.set(3, 60);
        Check.due(x.why(2), 0);
    }

    private static void reasonElevation() {
        Check.sentence("5 its elevation has no possible way");
        DishPointer x = new DishPointer();
        x.add(9000, 599, 0, 200, 30, 1);
        x.add(9000, 600, 0, 200, 30, 1);
        x.add(9000, 8500, 0, 200, 30, 1);
        Check.dueFrom(0, (dish, number) -> dish.why(number), x, 0, 0, 0);
        x.setAxis(1, 1, 1);
        Check.dueFrom(0, (dish, number) -> dish.why(number), x, 5, 0, 0);
        x.set(0, 101);
        Check.dueFrom(0, (dish, number) -> dish.why(number), x, 5, 5, 0);
        // From above, the play and the overshoot reach up from 8500 to 9000 at most.
        x.setAxis(1, 1, 0);
        x.slew(0, 5000);
        x.setAxis(1, 1, 2);
        x.set(0, 480);
        Check.dueFrom(0, (dish, number) -> dish.why(number), x, 0, 0, 0);
        x.set(0, 481);
        Check.dueFrom(0, (dish, number) -> dish.why(number), x, 0, 0, 5);
    }

    /** With every side, and the play and the overshoot at their greatest, one of the two places is left. */
    private static void reasonAzimuth() {
        Check.sentence("6 its azimuth has none");
        int[] azimuths = {0, 8999, 9000, 9499, 9500, 18000, 26200, 26201, 26960, 26961, 35999};
        for (int side = 0; side < 3; side++) {
            for (int azimuth : azimuths) {
                DishPointer x = new DishPointer();
                x.set(0, 500);
                x.setAxis(0, 0, 300);
                x.setAxis(0, 1, side);
                x.add(azimuth, 4500, 0, 200, 30, 1);
                Check.due("the reason for " + azimuth, x.why(0), 0);
                x.run(100);
                Check.due(x.target(0, 6), 2);
            }
        }
    }

    private static void reasonEndOfWindow() {
        Check.sentence("7 the slew and the dwell would end after the end of its window");
        // 16 minutes of slew and 30 of dwell.
        DishPointer x = new DishPointer();
        x.add(9000, 4500, 0, 45, 30, 1);
        x.add(9000, 4500, 0, 46, 30, 1);
        x.add(9000, 4500, 0, 47, 30, 1);
        Check.dueFrom(0, (dish, number) -> dish.why(number), x, 7, 0, 0);
        x.set(3, 0);
        x.run(1);
        x.set(3, 60);
        Check.dueFrom(0, (dish, number) -> dish.why(number), x, 7, 7, 0);
        // A window that is over, of a target that nobody has missed yet.
        x.set(3, 0);
        x.run(100);
        x.set(3, 60);
        x.add(0, 8500, 0, 100, 1, 1);
        x.add(0, 8500, 0, 101, 1, 1);
        x.add(0, 8500, 0, 103, 1, 1);
        x.add(0, 8500, 0, 104, 1, 1);
        Check.dueFrom(3, (dish, number) -> dish.why(number), x, 7, 7, 7, 0);
    }

    private static void firstReason() {
        Check.sentence("A waiting target can be begun at a time, or not, for the reason, the first one of these");
        DishPointer x = new DishPointer();
        x.setAxis(1, 1, 1);
        x.add(9000, 599, 50, 51, 600, 1);
        x.add(9000, 599, 0, 51, 600, 1);
        x.add(9000, 600, 0, 51, 600, 1);
        x.add(9000, 600, 0, 700, 600, 1);
        Check.dueFrom(0, (dish, number) -> dish.why(number), x, 4, 5, 7, 0);
        x.gust(0, 60);
        Check.dueFrom(0, (dish, number) -> dish.why(number), x, 3, 3, 3, 3);
        x.gust(0, 0);
        x.run(0);
        Check.dueFrom(0, (dish, number) -> dish.why(number), x, 2, 2, 2, 1);
        x.set(3, 0);
        Check.dueFrom(0, (dish, number) -> dish.why(number), x, 2, 2, 2, 1);
        x.run(51);
        Check.dueFrom(0, (dish, number) -> dish.why(number), x, 1, 1, 1, 1);
    }

    private static void begunAtOnce() {
        Check.sentence("When a target is begun, the motors go at once to the ends of their ways (this is counted), "
            + "and it is under way");
        DishPointer x = new DishPointer();
        x.setAxis(0, 1, 2);
        addOne(x);
        Check.due(x.axis(0, 3), 0);
        x.run(0);
        Check.dueFrom(3, (dish, what) -> dish.axis(0, what), x, 9000, 0, 9000, 9140, 140, 9000);
        Check.dueFrom(3, (dish, what) -> dish.axis(1, what), x, 4500, 0, 4500, 0, 4500, 4500);
        Check.due(x.count(16), 1);
        Check.due(x.target(0, 6), 1);
        Check.due(x.target(0, 7), 0);
    }

    private static void slewFinishedBehindItsTime() {
        Check.sentence("its slew is finished behind the time of the slew");
        // 560 and the play are just one minute of the motor.
        int[] azimuths = {560, 561, 35400, 35399};
        int[] times = {1, 2, 1, 2};
        for (int i = 0; i < azimuths.length; i++) {
            DishPointer x = new DishPointer();
            x.slew(0, 8500);
            x.run(7);
            x.add(azimuths[i], 8500, 0, 100, 1, 1);
            x.run(0);
            Check.due(x.target(0, 8), 7 + times[i]);
            Check.due(x.target(0, 9), 8 + times[i]);
        }
        // The greater one of the two times counts.
        DishPointer x = new DishPointer();
        x.add(560, 8399, 0, 100, 1, 1);
        x.run(0);
        Check.due(x.target(0, 8), 3);
    }

    private static void slewFinishedAtOnce() {
        Check.sentence("(at once, if that is 0; a push comes then)");
        DishPointer x = new DishPointer();
        x.slew(9000, 8500);
        x.add(9000, 8500, 0, 100, 10, 1);
        x.gust(0, 30);
        Check.due(x.axis(0, 4), 40);
        x.run(0);
        Check.dueFrom(6, (dish, what) -> dish.target(0, what), x, 1, 0, 0, 10, NONE, 0, 9000);
        Check.due(x.axis(0, 4), 0);
        Check.due(x.axis(0, 6), 9040);
        Check.due(x.count(16), 2);
        Check.due(x.run(10), 1);
        Check.due(x.target(0, 10), 40);
        // Without a push, nothing comes.
        x = new DishPointer();
        x.slew(9000, 8500);
        x.add(9000, 8500, 0, 100, 10, 1);
        x.run(0);
        Check.due(x.axis(0, 4), 40);
        // It has been looked at then: what becomes a push later does not.
        x.gust(0, 30);
        x.run(0);
        x.run(9);
        Check.due(x.axis(0, 4), 40);
    }

    private static void doneBehindItsDwell() {
        Check.sentence("it is done behind its dwell, which follows");
        int[] dwells = {1, 2, 599, 600};
        for (int dwell : dwells) {
            DishPointer x = new DishPointer();
            x.add(9000, 4500, 0, 43200, dwell, 1);
            Check.due(x.run(16 + dwell - 1), 0);
            Check.due(x.target(0, 9), 16 + dwell);
            Check.due(x.target(0, 6), 1);
            Check.due(x.run(1), 1);
            Check.due(x.target(0, 6), 2);
            Check.due(x.target(0, 9), 16 + dwell);
        }
    }

    private static void error() {
        Check.sentence("Its error is where the dish stands in azimuth, when it becomes done, "
            + "minus the place of the way.");
        DishPointer x = withTargets(1);
        Check.due(x.run(46), 1);
        Check.due(x.target(0, 10), 0);
        x = withTargets(1);
        x.gust(0, 30);
        Check.due(x.run(46), 1);
        Check.due(x.target(0, 10), 40);
        // Minus the place, not the azimuth: 27000 is led to at -9000.
        x = new DishPointer();
        x.gust(1, 30);
        x.run(1440);
        x.add(27000, 4500, 0, 2000, 30, 1);
        Check.due(x.run(45), 1);
        Check.due(x.target(0, 12), -9000);
        Check.due(x.target(0, 10), -40);
        // Around 0.
        x = new DishPointer();
        x.gust(1, 30);
        x.run(1440);
        x.add(0, 4500, 0, 2000, 30, 1);
        Check.due(x.run(45), 1);
        Check.due(x.target(0, 12), 0);
        Check.due(x.target(0, 10), -40);
        Check.due(x.count(18), 35960);
    }

    private static void errorOfTheMinute() {
        Check.sentence("where the dish stands in azimuth, when it becomes done");
        DishPointer x = withTargets(1);
        x.add(18000, 4500, 0, 300, 30, 0);
        x.run(45);
        x.setAxis(0, 0, 30);
        // The next one is begun at the minute at which this one is done: its way does not count.
        Check.due(x.run(1), 1);
        Check.due(x.count(8), 1);
        Check.due(x.target(0, 10), 10);
        // Nor does what comes later.
        x.setAxis(0, 0, 0);
        x.run(1);
        Check.due(x.target(0, 10), 10);
    }

    private static void setWhileUnderWay() {
        Check.sentence("What is set while it is under way changes neither its way nor its times.");
        DishPointer x = withTargets(1);
        x.run(0);
        x.setAxis(0, 0, 300);
        x.setAxis(1, 0, 300);
        x.setAxis(0, 1, 2);
        x.setAxis(1, 1, 2);
        x.setAxis(0, 2, 1);
        x.setAxis(1, 2, 1);
        x.set(0, 500);
        x.set(1, 0);
        Check.dueFrom(6, (dish, what) -> dish.target(0, what), x, 1, 0, 16, 46, NONE, 0, 9000);
        Check.due(x.axis(0, 3), 9040);
        Check.due(x.axis(1, 3), 4500);
        Check.due(x.run(45), 0);
        Check.due(x.run(1), 1);
        Check.dueFrom(6, (dish, what) -> dish.target(0, what), x, 2, 0, 16, 46, 0, 0, 9000);
        Check.due(x.axis(0, 3), 9040);
        Check.due(x.axis(1, 3), 4500);
    }

    private static void promise11Ranges() {
        Check.sentence("- `azimuth`: 0 to 35999\n- `elevation`: 500 to 8500\n- `from`: 0 to 43200\n"
            + "- `to`: 0 to 43200, greater than from\n- `dwell`: 1 to 600\n- `priority`: 0 to 9\n");
        int[] least = {0, 500, 0, 1, 1, 0};
        int[] most = {35999, 8500, 43199, 43200, 600, 9};
        // All at their least, all at their greatest; then one of them just outside.
        Check.due(addAll(least), 0);
        Check.due(addAll(most), 0);
        for (int argument = 0; argument < 6; argument++) {
            int[] below = least.clone();
            below[argument]--;
            Check.due(addAll(below), Check.INVALID);
            int[] above = most.clone();
            above[argument]++;
            Check.due(addAll(above), Check.INVALID);
        }
        for (int extreme : new int[] {Integer.MIN_VALUE, Integer.MAX_VALUE}) {
            Check.due(addAll(extreme, extreme, extreme, extreme, extreme, extreme), Check.INVALID);
        }
    }

    private static int addAll(int... numbers) {
        return new DishPointer().add(numbers[0], numbers[1], numbers[2], numbers[3], numbers[4], numbers[5]);
    }

    private static void promise11Numbers() {
        Check.sentence("Returns the number of the target; INVALID_ARGUMENT if an argument is out of range; "
            + "LIMIT_REACHED if there are 10.");
        DishPointer x = new DishPointer();
        Check.due(addOne(x), 0);
        Check.due(addOne(x), 1);
        x.drop(0);
        Check.due(addOne(x), 1);
        Check.due(x.add(9000, 4500, 0, 200, 30, 10), Check.INVALID);
        Check.due(addOne(x), 2);
    }

    private static void promise11Full() {
        Check.sentence("LIMIT_REACHED if there are 10.");
        DishPointer x = withTargets(10);
        Check.due(addOne(x), Check.LIMIT);
        Check.due(x.add(36000, 4500, 0, 200, 30, 1), Check.INVALID);
        Check.due(x.add(9000, 499, 0, 200, 30, 1), Check.INVALID);
        Check.due(x.add(9000, 4500, 200, 200, 30, 1), Check.INVALID);
        Check.due(x.add(9000, 4500, 0, 200, 601, 1), Check.INVALID);
        Check.due(x.add(9000, 4500, 0, 200, 30, -1), Check.INVALID);
        Check.due(x.count(4), 10);
        Check.due(x.undo(), 4);
        Check.due(addOne(x), 9);
    }

    private static void promise12Numbers() {
        Check.sentence("Returns how many targets remain; INVALID_ARGUMENT; NOT_POSSIBLE if it is under way.");
        DishPointer x = new DishPointer();
        Check.dueFrom(-1, (dish, number) -> dish.drop(number), x, Check.INVALID, Check.INVALID, Check.INVALID);
        addOne(x);
        Check.dueFrom(1, (dish, number) -> dish.drop(number), x, Check.INVALID, Check.INVALID);
        Check.due(x.drop(-1), Check.INVALID);
        Check.due(x.drop(0), 0);
        Check.due(x.drop(0), Check.INVALID);
        x = withTargets(10);
        Check.due(x.drop(10), Check.INVALID);
        Check.due(x.drop(-1), Check.INVALID);
        Check.due(x.drop(Integer.MIN_VALUE), Check.INVALID);
        Check.due(x.drop(Integer.MAX_VALUE), Check.INVALID);
        for (int number = 9; number >= 0; number--) {
            Check.due(x.drop(number), number);
        }
        Check.due(x.drop(0), Check.INVALID);
        Check.due(x.count(4), 0);
    }

    private static void promise12Later() {
        Check.sentence("Removes a target; the numbers of the later ones decrease by 1.");
        for (int dropped = 0; dropped < 10; dropped++) {
            DishPointer x = new DishPointer();
            for (int number = 0; number < 10; number++) {
                x.add(number, 500 + number, 0, 1, 1, number);
            }
            Check.due(x.drop(dropped), 9);
            for (int number = 0; number < 9; number++) {
                int was = number < dropped ? number : number + 1;
                Check.due(x.target(number, 0), was);
                Check.due(x.target(number, 1), 500 + was);
                Check.due(x.target(number, 5), was);
            }
            Check.due(x.target(9, 0), Check.INVALID);
            Check.due(x.why(9), Check.INVALID);
        }
    }

    private static void promise12LaterOfAllStates() {
        Check.sentence("Removes a target; the numbers of the later ones decrease by 1.");
        DishPointer x = new DishPointer();
        x.gust(0, 30);
        x.add(9000, 4500, 0, 10, 30, 9);
        x.add(9000, 4500, 0, 200, 30, 5);
        x.add(18000, 4500, 0, 300, 20, 4);
        x.add(27000, 4500, 0, 400, 10, 3);
        x.add(0, 8000, 500, 600, 10, 2);
        x.run(83);
        int[][] told = {
            {9000, 4500, 0, 200, 30, 5, 2, 0, 16, 46, 40, 0, 9000},
            {18000, 4500, 0, 300, 20, 4, 2, 46, 61, 81, 40, 0, 18000},
            {27000, 4500, 0, 400, 10, 3, 1, 81, 127, 137, NONE, 0, -9000},
            {0, 8000, 500, 600, 10, 2, 0, NONE, NONE, NONE, NONE, 0, NONE}};
        Check.due(x.target(0, 6), 3);
        for (int number = 0; number < 4; number++) {
            int later = number + 1;
            Check.dueFrom(0, (dish, what) -> dish.target(later, what), x, told[number]);
        }
        Check.due(x.drop(0), 4);
        for (int number = 0; number < 4; number++) {
            int same = number;
            Check.dueFrom(0, (dish, what) -> dish.target(same, what), x, told[number]);
        }
        Check.due(x.drop(0), 3);
        Check.dueFrom(0, (dish, what) -> dish.target(0, what), x, told[1]);
        Check.dueFrom(0, (dish, what) -> dish.target(1, what), x, told[2]);
        // With this undone, the earlier ones are back, with all their numbers.
        Check.due(x.undo(), 4);
        Check.due(x.undo(), 3);
        Check.due(x.target(0, 6), 3);
        for (int number = 0; number < 4; number++) {
            int later = number + 1;
            Check.dueFrom(0, (dish, what) -> dish.target(later, what), x, told[number]);
        }
    }

    private static void promise12UnderWay() {
        Check.sentence("NOT_POSSIBLE if it is under way.");
        DishPointer x = withTargets(3);
        Check.due(x.drop(2), 2);
        x.run(0);
        Check.due(x.drop(0), Check.NOT_POSSIBLE);
        Check.due(x.drop(2), Check.INVALID);
        Check.due(x.drop(-1), Check.INVALID);
        Check.due(x.count(4), 2);
        x.run(45);
        Check.due(x.drop(0), Check.NOT_POSSIBLE);
        x.run(1);
        Check.due(x.drop(1), Check.NOT_POSSIBLE);
        Check.due(x.drop(0), 1);
        Check.due(x.count(8), 0);
        Check.due(x.drop(0), Check.NOT_POSSIBLE);
    }

    private static void promise13Ranges() {
        Check.sentence("Returns the number; INVALID_ARGUMENT if an argument is out of range; "
            + "NOT_FOUND for 7, 8, 9 and 12");
        Check.dueRange((x, what) -> addOne(x) + x.target(0, what), 0, 12);
        DishPointer x = withTargets(2);
        Check.dueFrom(-1, (dish, number) -> dish.target(number, 0), x, Check.INVALID, 9000, 9000, Check.INVALID);
        Check.dueFrom(-1, (dish, number) -> dish.target(number, 13), x,
            Check.INVALID, Check.INVALID, Check.INVALID, Check.INVALID);
        Check.dueFrom(-1, (dish, what) -> dish.target(0, what), x, Check.INVALID, 9000);
        Check.dueFrom(12, (dish, what) -> dish.target(0, what), x, NONE, Check.INVALID);
        Check.due(x.target(2, 7), Check.INVALID);
        Check.due(x.target(Integer.MIN_VALUE, 0), Check.INVALID);
        Check.due(x.target(Integer.MAX_VALUE, 0), Check.INVALID);
    }

    private static void promise13NotFound() {
        Check.sentence("NOT_FOUND for 7, 8, 9 and 12 if it is neither under way nor done, for 10 if it is not done.");
        DishPointer x = new DishPointer();
        x.gust(1, 60);
        x.add(9000, 4500, 1300, 1399, 30, 1);
        x.add(9000, 4500, 1330, 1376, 30, 0);
        x.add(9000, 4500, 1400, 5000, 300, 0);
        Check.dueFrom(6, (dish, what) -> dish.target(0, what), x, 0, NONE, NONE, NONE, NONE, 0, NONE);
        x.run(1300);
        Check.dueFrom(6, (dish, what) -> dish.target(0, what), x, 1, 1300, 1316, 1346, NONE, 0, 9000);
        x.run(46);
        Check.dueFrom(6, (dish, what) -> dish.target(0, what), x, 2, 1300, 1316, 1346, 0, 0, 9000);
        Check.dueFrom(6, (dish, what) -> dish.target(1, what), x, 1, 1346, 1346, 1376, NONE, 0, 9000);
        x.run(84);
        Check.dueFrom(6, (dish, what) -> dish.target(2, what), x, 1, 1400, 1400, 1700, NONE, 0, 9000);
        x.run(10);
        Check.dueFrom(6, (dish, what) -> dish.target(2, what), x, 0, NONE, NONE, NONE, NONE, 1, NONE);
        // A missed one, too.
        x.add(9000, 4500, 0, 1440, 30, 1);
        x.run(0);
        Check.dueFrom(6, (dish, what) -> dish.target(3, what), x, 3, NONE, NONE, NONE, NONE, 0, NONE);
        Check.dueFrom(0, (dish, what) -> dish.target(3, what), x, 9000, 4500, 0, 1440, 30, 1);
    }

    private static void promise14Numbers() {
        Check.sentence("Returns the reason, 0 if it can be begun; INVALID_ARGUMENT.");
        DishPointer x = new DishPointer();
        Check.dueFrom(-1, (dish, number) -> dish.why(number), x, Check.INVALID, Check.INVALID);
        addOne(x);
        Check.dueFrom(-1, (dish, number) -> dish.why(number), x, Check.INVALID, 0, Check.INVALID);
        x = withTargets(10);
        Check.dueFrom(-1, (dish, number) -> dish.why(number), x, Check.INVALID, 0);
        Check.dueFrom(9, (dish, number) -> dish.why(number), x, 0, Check.INVALID);
        Check.due(x.why(Integer.MIN_VALUE), Check.INVALID);
        Check.due(x.why(Integer.MAX_VALUE), Check.INVALID);
    }

    private static void promise15None() {
        Check.sentence("with all targets as they are; NOT_FOUND if there is none.");
        DishPointer x = new DishPointer();
        Check.due(x.next(), NONE);
        x.add(9000, 4500, 0, 46, 30, 1);
        Check.due(x.next(), 0);
        x.set(3, 0);
        Check.due(x.next(), NONE);
        x.set(3, 60);
        x.setAxis(0, 2, 564);
        Check.due(x.next(), NONE);
        x.setAxis(0, 2, 565);
        Check.due(x.next(), 0);
        x.run(0);
        Check.due(x.next(), NONE);
        x.run(46);
        Check.due(x.next(), NONE);
        // The one under way is not done before minutes go by, nor is a waiting one missed.
        Check.due(x.add(9000, 4500, 0, 46, 30, 1), 1);
        Check.due(x.next(), NONE);
        Check.due(x.target(1, 6), 0);
    }

    private static void promise15Window() {
        Check.sentence("Returns the target that would be begun at the present time, with all targets as they are");
        DishPointer x = new DishPointer();
        x.set(3, 0);
        x.add(9000, 4500, 10, 56, 30, 1);
        x.run(9);
        x.set(3, 60);
        Check.due(x.next(), NONE);
        x.set(3, 0);
        x.run(1);
        x.set(3, 60);
        Check.due(x.next(), 0);
        x.set(3, 0);
        x.run(1);
        x.set(3, 60);
        Check.due(x.next(), NONE);
    }

    private static void promise15Order() {
        Check.sentence("of the targets that can be begun the one with the highest priority is begun, "
            + "of several the one whose window ends first, then the lowest one");
        DishPointer x = new DishPointer();
        x.add(9000, 4500, 0, 300, 30, 0);
        Check.due(x.next(), 0);
        x.add(9000, 4500, 0, 300, 30, 0);
        Check.due(x.next(), 0);
        x.add(9000, 4500, 0, 299, 30, 0);
        Check.due(x.next(), 2);
        x.add(9000, 4500, 0, 43200, 30, 9);
        Check.due(x.next(), 3);
        x.add(9000, 4500, 0, 43199, 30, 9);
        Check.due(x.next(), 4);
        x.add(9000, 4500, 0, 43199, 30, 9);
        Check.due(x.next(), 4);
        x.add(9000, 4500, 1, 43198, 30, 9);
        Check.due(x.next(), 4);
        x.add(9000, 4500, 0, 1, 30, 9);
        Check.due(x.next(), 4);
        x.add(9000, 4500, 0, 100, 30, 8);
        Check.due(x.next(), 4);
        // The begin of the window does not count.
        x = new DishPointer();
        x.set(3, 0);
        x.add(9000, 4500, 0, 500, 30, 0);
        x.add(9000, 4500, 5, 400, 30, 0);
        x.run(5);
        x.set(3, 60);
        Check.due(x.next(), 1);
    }

    private static void noTargets() {
        Check.sentence("If there is no axis or target with a certain number, this is INVALID_ARGUMENT.");
        DishPointer x = new DishPointer();
        Check.due(x.drop(0), Check.INVALID);
        Check.due(x.why(0), Check.INVALID);
        for (int what = -1; what <= 13; what++) {
            Check.due(x.target(0, what), Check.INVALID);
        }
        Check.due(x.next(), NONE);
        Check.due(x.run(0), 0);
        Check.due(x.ifRun(2000), 0);
        Check.due(x.run(2000), 0);
        Check.dueFrom(4, (dish, what) -> dish.count(what), x, 0, 0, 0, 0, NONE, NONE);
        Check.due(x.setAxis(2, 0, 1), Check.INVALID);
        Check.due(x.axis(-1, 0), Check.INVALID);
    }
}
