/** The sentences under "Axes" that name an edge, and promises 3 and 6. */
public final class EdgeAxesTest {
    public static void main(String[] args) {
        twoAxes();
        azimuthMotor();
        azimuthMotorBeyond();
        elevationMotor();
        elevationMotorBeyond();
        play();
        slackWithoutPlay();
        dishStands();
        slackGrows();
        slackGrowsLess();
        dishFollows();
        lesserPlay();
        side();
        speed();
        overshoot();
        promise3Ranges();
        promise3Previous();
        promise6Ranges();
        promise6WentUpAndDown();
        promise6SecondWay();
        Check.end();
    }

    private static void twoAxes() {
        Check.sentence("There are two axes, 0 azimuth and 1 elevation.");
        Check.dueRange((x, axis) -> x.setAxis(axis, 0, 1), 0, 1);
        Check.dueRange((x, axis) -> x.axis(axis, 0), 0, 1);
        Check.dueRange((x, axis) -> x.way(axis, 5000, 0), 0, 1);
        DishPointer x = new DishPointer();
        x.slew(100, 9000);
        Check.dueFrom(0, (dish, axis) -> dish.axis(axis, 3), x, 140, 9000);
        x.slew(100, 8000);
        Check.dueFrom(0, (dish, axis) -> dish.axis(axis, 3), x, 140, 8000);
    }

    /** A dish whose azimuth motor is led by short ways to one of its ends. */
    private static DishPointer ledTo(int... azimuths) {
        DishPointer x = new DishPointer();
        x.set(1, 27000);
        for (int azimuth : azimuths) {
            x.slew(azimuth, 9000);
        }
        return x;
    }

    private static void azimuthMotor() {
        Check.sentence("that of the azimuth stands at -27000 to 27000 (initially 0)");
        Check.due(new DishPointer().axis(0, 3), 0);
        DishPointer x = ledTo(9000, 18000, 26960);
        Check.due(x.axis(0, 3), 27000);
        x = ledTo(27000, 18000, 9000);
        Check.due(x.axis(0, 3), -27000);
    }

    private static void azimuthMotorBeyond() {
        Check.sentence("that of the azimuth stands at -27000 to 27000 (initially 0)");
        // The place one further can not be reached, so that the cable is unwound.
        DishPointer x = ledTo(9000, 18000, 26961);
        Check.due(x.axis(0, 3), -9039);
        x = ledTo(27000, 18000, 8999);
        Check.due(x.axis(0, 3), 9039);
        x = new DishPointer();
        Check.dueFrom(26959, (dish, place) -> dish.way(0, place, 0), x, 26999, 27000, Check.NOT_FOUND);
        Check.dueFrom(-27001, (dish, place) -> dish.way(0, place, 0), x, Check.INVALID, -27000, -26999);
        x.set(0, 1);
        x.setAxis(0, 1, 1);
        Check.dueFrom(-27000, (dish, place) -> dish.way(0, place, 3), x, Check.NOT_FOUND, -27000, -26999);
        x.setAxis(0, 1, 2);
        Check.dueFrom(26958, (dish, place) -> dish.way(0, place, 3), x, 26999, 27000, Check.NOT_FOUND);
    }

    private static void elevationMotor() {
        Check.sentence("that of the elevation at 500 to 9000 (initially 9000)");
        DishPointer x = new DishPointer();
        Check.due(x.axis(1, 3), 9000);
        Check.due(x.slew(0, 500), 29);
        Check.due(x.axis(1, 3), 500);
        Check.due(x.slew(0, 8980), 29);
        Check.due(x.axis(1, 3), 9000);
    }

    private static void elevationMotorBeyond() {
        Check.sentence("that of the elevation at 500 to 9000 (initially 9000)");
        DishPointer x = new DishPointer();
        Check.dueFrom(499, (dish, place) -> dish.way(1, place, 0), x, Check.NOT_FOUND, 500, 501);
        x.slew(0, 500);
        Check.dueFrom(8979, (dish, place) -> dish.way(1, place, 0), x, 8999, 9000, Check.NOT_FOUND);
        Check.due(x.slew(0, 8981), Check.NOT_POSSIBLE);
        Check.due(x.axis(1, 3), 500);
        x.setAxis(1, 1, 1);
        Check.dueFrom(599, (dish, place) -> dish.way(1, place, 0), x, 619, 620, 621);
        x.slew(0, 5000);
        Check.dueFrom(599, (dish, place) -> dish.way(1, place, 3), x, Check.NOT_FOUND, 500, 501);
        x.setAxis(1, 1, 2);
        Check.dueFrom(8879, (dish, place) -> dish.way(1, place, 3), x, 8999, 9000, Check.NOT_FOUND);
    }

    private static void play() {
        Check.sentence("Each has a play (0 to 300, initially 40 and 20)");
        Check.dueFrom(0, (dish, axis) -> dish.axis(axis, 0), new DishPointer(), 40, 20);
        for (int axis = 0; axis < 2; axis++) {
            int same = axis;
            Check.dueRange((dish, play) -> dish.setAxis(same, 0, play), 0, 300);
            DishPointer x = new DishPointer();
            x.slew(5000, 5000);
            x.setAxis(axis, 0, 300);
            Check.due(x.axis(axis, 0), 300);
            Check.due(x.way(axis, 5100, 0), 5400);
            x.setAxis(axis, 0, 0);
            Check.due(x.axis(axis, 0), 0);
            Check.due(x.way(axis, 5100, 0), 5100);
        }
    }

    private static void slackWithoutPlay() {
        Check.sentence("a slack from 0 to its play (initially 0)");
        DishPointer x = new DishPointer();
        Check.dueFrom(0, (dish, axis) -> dish.axis(axis, 4), x, 0, 0);
        x.setAxis(0, 0, 0);
        x.setAxis(1, 0, 1);
        x.slew(500, 500);
        x.slew(1000, 1000);
        Check.dueFrom(0, (dish, axis) -> dish.axis(axis, 4), x, 0, 1);
        Check.dueFrom(0, (dish, axis) -> dish.axis(axis, 3), x, 1000, 1001);
        x.slew(999, 999);
        Check.dueFrom(0, (dish, axis) -> dish.axis(axis, 4), x, 0, 0);
        Check.dueFrom(0, (dish, axis) -> dish.axis(axis, 3), x, 999, 999);
    }

    private static void dishStands() {
        Check.sentence("The dish stands, on each axis, at motor - slack.");
        DishPointer x = new DishPointer();
        Check.dueFrom(3, (dish, what) -> dish.axis(0, what), x, 0, 0, 0);
        Check.dueFrom(3, (dish, what) -> dish.axis(1, what), x, 9000, 0, 9000);
        x.slew(35000, 600);
        Check.dueFrom(3, (dish, what) -> dish.axis(0, what), x, -1000, 0, -1000);
        x.slew(35990, 700);
        Check.dueFrom(3, (dish, what) -> dish.axis(0, what), x, 30, 40, -10);
        Check.dueFrom(3, (dish, what) -> dish.axis(1, what), x, 720, 20, 700);
    }

    /** A dish whose elevation motor stands at a place with the slack 0, one minute ahead of a hold. */
    private static DishPointer aheadOfHold(int elevation) {
        DishPointer x = new DishPointer();
        x.slew(0, elevation);
        x.gust(1, 60);
        x.run(1439);
        return x;
    }

    private static void slackGrows() {
        Check.sentence("When the motor goes up by n, the slack grows by n, at most to the play");
        int[] elevations = {9000, 8999, 8981, 8980, 8979, 500};
        int[] slacks = {0, 1, 19, 20, 20, 20};
        for (int i = 0; i < elevations.length; i++) {
            DishPointer x = aheadOfHold(elevations[i]);
            Check.due(x.axis(1, 4), 0);
            x.run(1);
            Check.due(x.axis(1, 3), 9000);
            Check.due(x.axis(1, 4), slacks[i]);
        }
    }

    private static void slackGrowsLess() {
        Check.sentence("when it goes down by n, the slack becomes less by n, not below 0");
        DishPointer x = new DishPointer();
        x.slew(1000, 9000);
        Check.dueFrom(3, (dish, what) -> dish.axis(0, what), x, 1040, 40, 1000);
        x.slew(999, 9000);
        Check.dueFrom(3, (dish, what) -> dish.axis(0, what), x, 999, 0, 999);
        x.slew(500, 9000);
        Check.dueFrom(3, (dish, what) -> dish.axis(0, what), x, 500, 0, 500);
        // Down by the slack alone, and up again by the play.
        x.set(0, 0);
        x.setAxis(0, 1, 1);
        x.slew(501, 9000);
        x.setAxis(0, 0, 10);
        x.setAxis(0, 0, 40);
        x.slew(531, 9000);
        Check.dueFrom(3, (dish, what) -> dish.axis(0, what), x, 571, 40, 531);
        Check.due(x.axis(0, 7), 1040 - 999 + 499 + 10);
    }

    private static void dishFollows() {
        Check.sentence("(So the dish goes up only when the slack is the play, and down only when it is 0.)");
        DishPointer x = aheadOfHold(8981);
        x.run(1);
        Check.due(x.axis(1, 5), 8981);
        x = aheadOfHold(8980);
        x.run(1);
        Check.due(x.axis(1, 5), 8980);
        x = aheadOfHold(8979);
        x.run(1);
        Check.due(x.axis(1, 5), 8980);
    }

    private static void lesserPlay() {
        Check.sentence("When a play is set to a lesser number than the slack, the slack becomes the play.");
        for (int axis = 0; axis < 2; axis++) {
            int[] plays = {0, 10, 19, 20, 21, 300};
            int[] slacks = {0, 10, 19, 20, 20, 20};
            for (int i = 0; i < plays.length; i++) {
                DishPointer x = new DishPointer();
                x.setAxis(0, 0, 20);
                x.slew(0, 4000);
                x.slew(5000, 5000);
                x.setAxis(axis, 0, plays[i]);
                Check.dueFrom(3, (dish, what) -> dish.axis(0, what), x,
                    5020, axis == 0 ? slacks[i] : 20, axis == 0 ? 5020 - slacks[i] : 5000);
                Check.dueFrom(3, (dish, what) -> dish.axis(1, what), x,
                    5020, axis == 1 ? slacks[i] : 20, axis == 1 ? 5020 - slacks[i] : 5000);
                Check.due(x.axis(axis, 6), axis == 0 ? 5020 : 1020);
            }
        }
    }

    private static void side() {
        Check.sentence("Each axis has a side (0 any, 1 from below, 2 from above; initially 0)");
        Check.dueFrom(0, (dish, axis) -> dish.axis(axis, 1), new DishPointer(), 0, 0);
        for (int axis = 0; axis < 2; axis++) {
            int same = axis;
            Check.dueRange((dish, side) -> dish.setAxis(same, 1, side), 0, 2);
            DishPointer x = new DishPointer();
            x.setAxis(0, 0, 20);
            x.slew(3000, 3000);
            x.setAxis(axis, 1, 1);
            Check.dueFrom(0, (dish, other) -> dish.axis(other, 1), x, axis == 0 ? 1 : 0, axis == 1 ? 1 : 0);
            Check.due(x.way(axis, 2000, 0), 2020);
            x.setAxis(axis, 1, 2);
            Check.due(x.way(axis, 4000, 0), 4000);
            x.setAxis(axis, 1, 0);
            Check.due(x.way(axis, 2000, 0), 2000);
            Check.due(x.way(axis, 4000, 0), 4020);
        }
    }

    private static void speed() {
        Check.sentence("a speed (1 to 2000 hundredths in a minute, initially 600 and 300)");
        Check.dueFrom(0, (dish, axis) -> dish.axis(axis, 2), new DishPointer(), 600, 300);
        for (int axis = 0; axis < 2; axis++) {
            int same = axis;
            Check.dueRange((dish, speed) -> dish.setAxis(same, 2, speed), 1, 2000);
            DishPointer x = new DishPointer();
            x.slew(5000, 5000);
            int other = x.axis(1 - axis, 2);
            x.setAxis(axis, 2, 1);
            Check.due(x.way(axis, 3000, 2), axis == 0 ? 2040 : 2000);
            x.setAxis(axis, 2, 2000);
            Check.due(x.way(axis, 3000, 2), axis == 0 ? 2 : 1);
            Check.due(x.axis(1 - axis, 2), other);
        }
    }

    private static void overshoot() {
        Check.sentence("The overshoot is a number from 0 to 500 (initially 100), for both.");
        Check.due(new DishPointer().count(12), 100);
        Check.dueRange((dish, overshoot) -> dish.set(0, overshoot), 0, 500);
        DishPointer x = new DishPointer();
        x.slew(5000, 5000);
        for (int axis = 0; axis < 2; axis++) {
            x.setAxis(axis, 1, 1);
            x.set(0, 100);
            Check.due(x.way(axis, 3000, 3), 2900);
            x.set(0, 0);
            Check.due(x.way(axis, 3000, 3), 3000);
            x.set(0, 500);
            Check.due(x.way(axis, 3000, 3), 2500);
        }
    }

    private static void promise3Ranges() {
        Check.sentence("- `axis`: 0 or 1\n- `what`: 0: the play (0 to 300); 1: the side (0 to 2); "
            + "2: the speed (1 to 2000)\n- `value`: a value in its range");
        int[] least = {0, 0, 1};
        int[] most = {300, 2, 2000};
        for (int what = 0; what < 3; what++) {
            int same = what;
            Check.dueRange((x, axis) -> x.setAxis(axis, same, 1), 0, 1);
            for (int axis = 0; axis < 2; axis++) {
                int one = axis;
                Check.dueRange((x, value) -> x.setAxis(one, same, value), least[what], most[what]);
            }
        }
        Check.dueRange((x, what) -> x.setAxis(0, what, 1), 0, 2);
        Check.dueRange((x, what) -> x.setAxis(1, what, 1), 0, 2);
    }

    private static void promise3Previous() {
        Check.sentence("Returns the previous value; INVALID_ARGUMENT if an argument is out of range.");
        DishPointer x = new DishPointer();
        Check.due(x.setAxis(0, 0, 300), 40);
        Check.due(x.setAxis(0, 0, 301), Check.INVALID);
        Check.due(x.setAxis(0, 0, 0), 300);
        Check.due(x.setAxis(0, 0, -1), Check.INVALID);
        Check.due(x.setAxis(0, 0, 0), 0);
        Check.due(x.setAxis(1, 1, 2), 0);
        Check.due(x.setAxis(1, 1, 3), Check.INVALID);
        Check.due(x.setAxis(1, 1, 0), 2);
        Check.due(x.setAxis(1, 2, 2000), 300);
        Check.due(x.setAxis(1, 2, 0), Check.INVALID);
        Check.due(x.setAxis(1, 2, 1), 2000);
        Check.due(x.setAxis(1, 2, 1), 1);
    }

    private static void promise6Ranges() {
        Check.sentence("- `what`: 0: the play; 1: the side; 2: the speed; 3: the motor; 4: the slack; "
            + "5: where the dish stands; 6: all that its motor went up; 7: all that it went down; 8: the place");
        Check.dueRange((x, what) -> x.axis(0, what), 0, 8);
        Check.dueRange((x, what) -> x.axis(1, what), 0, 8);
        Check.dueRange((x, axis) -> x.axis(axis, 8), 0, 1);
        Check.dueFrom(0, (dish, what) -> dish.axis(0, what), new DishPointer(), 40, 0, 600, 0, 0, 0, 0, 0, 0);
        Check.dueFrom(0, (dish, what) -> dish.axis(1, what), new DishPointer(),
            20, 0, 300, 9000, 0, 9000, 0, 0, 9000);
    }

    private static void promise6WentUpAndDown() {
        Check.sentence("6: all that its motor went up; 7: all that it went down");
        DishPointer x = new DishPointer();
        x.slew(0, 9000);
        Check.dueFrom(6, (dish, what) -> dish.axis(0, what), x, 0, 0, 0);
        x.slew(1, 8999);
        Check.dueFrom(6, (dish, what) -> dish.axis(0, what), x, 41, 0, 41);
        Check.dueFrom(6, (dish, what) -> dish.axis(1, what), x, 0, 1, 8999);
        // A refused slew is not counted; the hold at the begin of a day is.
        Check.due(x.slew(0, 9000), Check.NOT_POSSIBLE);
        x.gust(1, 60);
        x.run(1440);
        Check.dueFrom(6, (dish, what) -> dish.axis(1, what), x, 1, 1, 9000);
        // Both halves of a way that turns round are counted.
        x = new DishPointer();
        x.setAxis(0, 1, 2);
        x.slew(10, 9000);
        Check.dueFrom(6, (dish, what) -> dish.axis(0, what), x, 150, 140, 10);
    }

    private static void promise6SecondWay() {
        Check.sentence("8: the place of the motor told in the second way: 0 (azimuth) or 9000 plus what it went up "
            + "minus what it went down");
        DishPointer x = new DishPointer();
        int[] azimuths = {35999, 0, 27000, 18000, 9000, 1};
        for (int i = 0; i < azimuths.length; i++) {
            x.setAxis(0, 1, i % 3);
            x.setAxis(1, 1, i % 2);
            x.slew(azimuths[i], 600 + 1000 * i);
            for (int axis = 0; axis < 2; axis++) {
                Check.due(x.axis(axis, 8), x.axis(axis, 3));
                Check.due(x.axis(axis, 8), 9000 * axis + x.axis(axis, 6) - x.axis(axis, 7));
            }
        }
        // What a push does to the slack is no way of the motor.
        x = new DishPointer();
        x.gust(0, 30);
        x.add(9000, 4500, 0, 200, 30, 1);
        x.run(46);
        Check.dueFrom(3, (dish, what) -> dish.axis(0, what), x, 9040, 0, 9040, 9040, 0, 9040);
    }
}
