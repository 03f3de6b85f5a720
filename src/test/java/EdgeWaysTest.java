/** The sentences under "Ways to a place" that name an edge, and promises 7 to 10. */
public final class EdgeWaysTest {
    private static final int NONE = Check.NOT_FOUND;

    public static void main(String[] args) {
        sideAny();
        sideBelow();
        sideAbove();
        turningPlaces();
        turnsWhereItStands();
        possibleUp();
        possibleDown();
        possibleWhereItStands();
        lengths();
        azimuths();
        placesAsFarAsPossible();
        wind();
        windIsOfThePlace();
        windSetting();
        shortest();
        nearerToNought();
        lower();
        slewTakesTheGreaterTime();
        timesAreRoundedUp();
        promise7Ranges();
        promise7NotFound();
        promise7NothingChanges();
        promise8Ranges();
        promise9Ranges();
        promise9AtOnce();
        promise9NotPossible();
        promise10Beyond();
        Check.end();
    }

    private static void dueWay(DishPointer x, int axis, int place, int... wanted) {
        Check.dueFrom(0, (dish, what) -> dish.way(axis, place, what), x, wanted);
    }

    /** A dish that stands at the place 1000 (azimuth) with some slack below the play 40. */
    private static DishPointer withSlack(int slack) {
        DishPointer x = new DishPointer();
        x.slew(2000, 9000);
        x.slew(960 + slack, 9000);
        x.slew(961 + slack, 9000);
        x.setAxis(0, 0, slack);
        x.setAxis(0, 0, 40);
        Check.due(x.axis(0, 4), slack);
        Check.due(x.axis(0, 5), 1001);
        return x;
    }

    private static void sideAny() {
        Check.sentence("With the side 0: if the dish stands below t, the motor goes up to t + play; "
            + "if above t, down to t; if it stands at t, nowhere.");
        for (int slack : new int[] {0, 1, 20, 39, 40}) {
            DishPointer x = withSlack(slack);
            int motor = 1001 + slack;
            dueWay(x, 0, 1000, 1000, motor - 1000, 1, NONE);
            dueWay(x, 0, 1001, motor, 0, 0, NONE);
            dueWay(x, 0, 1002, 1042, 1042 - motor, 1, NONE);
        }
    }

    private static void sideBelow() {
        Check.sentence("With the side 1: if the dish stands below t, the motor goes up to t + play; "
            + "if it stands at t with the slack being the play, nowhere; "
            + "otherwise down to t - overshoot, and then up to t + play.");
        for (int slack : new int[] {0, 1, 20, 39, 40}) {
            DishPointer x = withSlack(slack);
            x.setAxis(0, 1, 1);
            int motor = 1001 + slack;
            dueWay(x, 0, 1000, 1040, motor - 900 + 140, 1, 900);
            if (slack == 40) {
                dueWay(x, 0, 1001, 1041, 0, 0, NONE);
            } else {
                dueWay(x, 0, 1001, 1041, motor - 901 + 140, 1, 901);
            }
            dueWay(x, 0, 1002, 1042, 1042 - motor, 1, NONE);
        }
    }

    private static void sideAbove() {
        Check.sentence("With the side 2: if the dish stands above t, the motor goes down to t; "
            + "if it stands at t with the slack 0, nowhere; "
            + "otherwise up to t + play + overshoot, and then down to t.");
        for (int slack : new int[] {0, 1, 20, 39, 40}) {
            DishPointer x = withSlack(slack);
            x.setAxis(0, 1, 2);
            int motor = 1001 + slack;
            dueWay(x, 0, 1000, 1000, motor - 1000, 1, NONE);
            if (slack == 0) {
                dueWay(x, 0, 1001, 1001, 0, 0, NONE);
            } else {
                dueWay(x, 0, 1001, 1001, 1141 - motor + 140, 1, 1141);
            }
            dueWay(x, 0, 1002, 1002, 1142 - motor + 140, 1, 1142);
        }
    }

    private static void turningPlaces() {
        Check.sentence("The places at which a way turns round, with the sides 1 and 2, are its turning places");
        DishPointer x = withSlack(0);
        int[] overshoots = {0, 1, 499, 500};
        for (int overshoot : overshoots) {
            x.set(0, overshoot);
            x.setAxis(0, 1, 0);
            Check.dueFrom(1000, (dish, place) -> dish.way(0, place, 3), x, NONE, NONE, NONE);
            x.setAxis(0, 1, 1);
            Check.dueFrom(1000, (dish, place) -> dish.way(0, place, 3), x, 1000 - overshoot, 1001 - overshoot, NONE);
            x.setAxis(0, 1, 2);
            Check.dueFrom(1000, (dish, place) -> dish.way(0, place, 3), x, NONE, NONE, 1042 + overshoot);
        }
        x.setAxis(0, 0, 300);
        Check.due(x.way(0, 1002, 3), 1802);
    }

    private static void turnsWhereItStands() {
        Check.sentence("are its turning places (also where the motor stands there already)");
        // The slack 0, and no overshoot: the way down is empty.
        DishPointer x = withSlack(0);
        x.set(0, 0);
        x.setAxis(0, 1, 1);
        dueWay(x, 0, 1001, 1041, 40, 1, 1001);
        x.set(0, 1);
        dueWay(x, 0, 1001, 1041, 1 + 41, 1, 1000);
        // The slack is the play, and no overshoot: the way up is empty.
        x = withSlack(40);
        x.set(0, 0);
        x.setAxis(0, 1, 2);
        dueWay(x, 0, 1001, 1001, 40, 1, 1041);
        x.set(0, 1);
        dueWay(x, 0, 1001, 1001, 1 + 41, 1, 1042);
        // Without a play the dish stands there from both sides.
        x.set(0, 0);
        x.setAxis(0, 0, 0);
        dueWay(x, 0, 1041, 1041, 0, 0, NONE);
        x.setAxis(0, 1, 1);
        dueWay(x, 0, 1041, 1041, 0, 0, NONE);
    }

    private static void possibleUp() {
        Check.sentence("A way is possible if the motor does not leave its range on it.");
        DishPointer x = new DishPointer();
        dueWay(x, 0, 26960, 27000, 27000, 45, NONE);
        dueWay(x, 0, 26961, NONE, NONE, NONE, NONE);
        dueWay(x, 0, 27000, NONE, NONE, NONE, NONE);
        x.setAxis(0, 1, 1);
        dueWay(x, 0, 26960, 27000, 27000, 45, NONE);
        dueWay(x, 0, 26961, NONE, NONE, NONE, NONE);
        x.setAxis(0, 1, 2);
        dueWay(x, 0, 26860, 26860, 27140, 46, 27000);
        dueWay(x, 0, 26861, NONE, NONE, NONE, NONE);
        x.slew(0, 5000);
        dueWay(x, 1, 8980, 9000, 4000, 14, NONE);
        dueWay(x, 1, 8981, NONE, NONE, NONE, NONE);
        x.setAxis(1, 1, 2);
        dueWay(x, 1, 8880, 8880, 4120, 14, 9000);
        dueWay(x, 1, 8881, NONE, NONE, NONE, NONE);
    }

    private static void possibleDown() {
        Check.sentence("A way is possible if the motor does not leave its range on it.");
        DishPointer x = new DishPointer();
        dueWay(x, 0, -27000, -27000, 27000, 45, NONE);
        dueWay(x, 1, 500, 500, 8500, 29, NONE);
        dueWay(x, 1, 499, NONE, NONE, NONE, NONE);
        x.setAxis(0, 1, 2);
        x.setAxis(1, 1, 2);
        dueWay(x, 0, -27000, -27000, 27000, 45, NONE);
        dueWay(x, 1, 500, 500, 8500, 29, NONE);
        dueWay(x, 1, 499, NONE, NONE, NONE, NONE);
        x.setAxis(0, 1, 1);
        x.setAxis(1, 1, 1);
        dueWay(x, 0, -26900, -26860, 27140, 46, -27000);
        dueWay(x, 0, -26901, NONE, NONE, NONE, NONE);
        dueWay(x, 1, 600, 620, 8620, 29, 500);
        dueWay(x, 1, 599, NONE, NONE, NONE, NONE);
    }

    /** A dish that a push has left at -27040, below the range of its motor. */
    private static DishPointer pushedBelow() {
        DishPointer x = new DishPointer();
        x.set(1, 27000);
        x.gust(1, 30);
        x.slew(27000, 8500);
        x.slew(18000, 8500);
        x.run(1440);
        x.add(9000, 8500, 0, 4000, 5, 0);
        x.run(20);
        Check.due(x.axis(0, 3), -27000);
        Check.due(x.axis(0, 5), -27040);
        Check.due(x.target(0, 10), -40);
        x.set(1, 0);
        return x;
    }

    private static void possibleWhereItStands() {
        Check.sentence("if it stands at t, nowhere");
        DishPointer x = pushedBelow();
        // z - 36000 is -27040: the motor stays where it is.
        Check.dueFrom(8959, (dish, azimuth) -> dish.placeFor(azimuth), x, 8959, -27040, -27039);
        Check.due(x.slew(8960, 8500), 0);
        Check.due(x.axis(0, 5), -27040);
        Check.due(x.count(18), 8960);
        dueWay(x, 0, -27000, -26960, 40, 1, NONE);
        x.setAxis(0, 1, 1);
        Check.due(x.placeFor(8960), -27040);
        dueWay(x, 0, -27000, -26960, 40, 1, NONE);
        x.setAxis(0, 1, 2);
        Check.due(x.placeFor(8960), 8960);
    }

    private static void lengths() {
        Check.sentence("Its length is the sum of all that the motor goes on it, up and down.");
        DishPointer x = new DishPointer();
        Check.due(x.way(0, 0, 1), 0);
        Check.due(x.way(0, 1, 1), 41);
        Check.due(x.way(0, -1, 1), 1);
        x.setAxis(0, 1, 1);
        Check.due(x.way(0, 0, 1), 100 + 140);
        Check.due(x.way(0, -1, 1), 101 + 140);
        Check.due(x.way(0, -26900, 1), 27000 + 140);
        x.setAxis(0, 1, 2);
        Check.due(x.way(0, 1, 1), 141 + 140);
        Check.due(x.way(0, 26860, 1), 27000 + 140);
        x.set(0, 500);
        x.setAxis(0, 0, 300);
        Check.due(x.way(0, 1, 1), 801 + 800);
    }

    private static void azimuths() {
        Check.sentence("For an azimuth z (0 to 35999), the places are z - 36000 and z");
        DishPointer x = new DishPointer();
        Check.dueFrom(-1, (dish, azimuth) -> dish.placeFor(azimuth), x, Check.INVALID, 0, 1, 2);
        Check.dueFrom(35998, (dish, azimuth) -> dish.placeFor(azimuth), x, -2, -1, Check.INVALID);
        // From both sides of 0 to both sides of 0.
        x.slew(35999, 9000);
        Check.due(x.axis(0, 5), -1);
        Check.dueFrom(0, (dish, azimuth) -> dish.placeFor(azimuth), x, 0, 1);
        Check.dueFrom(35998, (dish, azimuth) -> dish.placeFor(azimuth), x, -2, -1);
        x.slew(1, 9000);
        Check.due(x.axis(0, 5), 1);
        Check.dueFrom(35998, (dish, azimuth) -> dish.placeFor(azimuth), x, -2, -1);
        x.slew(0, 9000);
        Check.due(x.axis(0, 5), 0);
        // Far from 0, the place is a full turn away.
        x.slew(17000, 9000);
        x.set(1, 27000);
        x.slew(26000, 9000);
        Check.dueFrom(26500, (dish, azimuth) -> dish.placeFor(azimuth), x, 26500);
        Check.dueFrom(35998, (dish, azimuth) -> dish.placeFor(azimuth), x, -2, -1);
    }

    private static void placesAsFarAsPossible() {
        Check.sentence("z - 36000 and z, as far as their ways are possible");
        // The play of 40 reaches the end of the range at 26960, the other place begins at 9000.
        DishPointer x = new DishPointer();
        x.set(1, 0);
        Check.dueFrom(26959, (dish, azimuth) -> dish.placeFor(azimuth), x, -9041, -9040, -9039);
        Check.dueFrom(8999, (dish, azimuth) -> dish.placeFor(azimuth), x, 8999, 9000, 9001);
        x.set(1, 27000);
        x.slew(9000, 9000);
        x.slew(18000, 9000);
        Check.dueFrom(26959, (dish, azimuth) -> dish.placeFor(azimuth), x, 26959, 26960, -9039);
        x = new DishPointer();
        x.set(1, 27000);
        x.slew(27000, 9000);
        x.slew(18000, 9000);
        Check.dueFrom(8999, (dish, azimuth) -> dish.placeFor(azimuth), x, 8999, -27000, -26999);
        x.setAxis(0, 1, 1);
        Check.dueFrom(9099, (dish, azimuth) -> dish.placeFor(azimuth), x, 9099, -26900);
    }

    /** A dish at the place 10000, for which 20000 is nearer than -16000. */
    private static DishPointer atTenThousand() {
        DishPointer x = new DishPointer();
        x.slew(10000, 9000);
        Check.due(x.way(0, 20000, 1), 10000);
        Check.due(x.way(0, -16000, 1), 26040);
        return x;
    }

    private static void wind() {
        Check.sentence("Of these, places at -W to W are taken first");
        DishPointer x = atTenThousand();
        int[] winds = {0, 15999, 16000, 18000, 19999, 20000, 27000};
        int[] places = {20000, 20000, -16000, -16000, -16000, 20000, 20000};
        for (int i = 0; i < winds.length; i++) {
            x.set(1, winds[i]);
            Check.due(x.placeFor(20000), places[i]);
        }
        // The same with z as the unwound one.
        x = new DishPointer();
        x.slew(26000, 9000);
        Check.due(x.axis(0, 3), -10000);
        int[] others = {-20000, -20000, 16000, 16000, 16000, -20000, -20000};
        for (int i = 0; i < winds.length; i++) {
            x.set(1, winds[i]);
            Check.due(x.placeFor(16000), others[i]);
        }
    }

    private static void windIsOfThePlace() {
        Check.sentence("(the place counts, not the motor)");
        DishPointer x = atTenThousand();
        // The motor would stand at 17040 and 18040, beyond W.
        x.set(1, 17000);
        Check.dueFrom(17000, (dish, azimuth) -> dish.placeFor(azimuth), x, 17000, 17001);
        x.set(1, 18000);
        Check.dueFrom(18000, (dish, azimuth) -> dish.placeFor(azimuth), x, 18000, -17999);
        Check.due(x.slew(18000, 9000), 14);
        Check.due(x.isWound(), 1);
        // From below -W, the motor would stand at -17970, within W; the place -18010 is beyond.
        x = new DishPointer();
        x.set(1, 27000);
        x.slew(27000, 9000);
        x.slew(16000, 9000);
        Check.due(x.axis(0, 5), -20000);
        Check.due(x.way(0, -18010, 0), -17970);
        x.set(1, 18000);
        Check.due(x.placeFor(17990), 17990);
        Check.dueFrom(17999, (dish, azimuth) -> dish.placeFor(azimuth), x, 17999, -18000, -17999);
    }

    private static void windSetting() {
        Check.sentence("(W is the wind, a setting from 0 to 27000, initially 18000)");
        Check.due(new DishPointer().count(13), 18000);
        Check.dueRange((x, wind) -> x.set(1, wind), 0, 27000);
        DishPointer x = atTenThousand();
        Check.dueFrom(18000, (dish, azimuth) -> dish.placeFor(azimuth), x, 18000, -17999);
        x.set(1, 0);
        Check.dueFrom(0, (dish, azimuth) -> dish.placeFor(azimuth), x, 0, 1);
    }

    private static void shortest() {
        Check.sentence("then the shortest way");
        DishPointer x = new DishPointer();
        x.set(1, 27000);
        Check.dueFrom(17979, (dish, azimuth) -> dish.placeFor(azimuth), x, 17979, 17980, -18019);
        // Beyond W on both sides, too.
        x.set(1, 100);
        Check.dueFrom(17979, (dish, azimuth) -> dish.placeFor(azimuth), x, 17979, 17980, -18019);
        // The way counts with both its halves, not the distance.
        x = new DishPointer();
        x.setAxis(0, 1, 1);
        x.set(1, 27000);
        Check.due(x.way(0, 18100, 1), 18140);
        Check.due(x.way(0, -17900, 1), 18000 + 140);
        Check.dueFrom(18099, (dish, azimuth) -> dish.placeFor(azimuth), x, 18099, -17900, -17899);
        x.setAxis(0, 1, 2);
        Check.due(x.way(0, 17860, 1), 18000 + 140);
        Check.due(x.way(0, -18140, 1), 18140);
        Check.dueFrom(17859, (dish, azimuth) -> dish.placeFor(azimuth), x, 17859, 17860, -18139);
    }

    private static void nearerToNought() {
        Check.sentence("then the one nearer to 0");
        DishPointer x = new DishPointer();
        x.set(1, 27000);
        Check.due(x.way(0, 17980, 1), x.way(0, -18020, 1));
        Check.due(x.placeFor(17980), 17980);
        x.slew(100, 9000);
        Check.due(x.way(0, 18120, 1), x.way(0, -17880, 1));
        Check.dueFrom(18119, (dish, azimuth) -> dish.placeFor(azimuth), x, 18119, -17880, -17879);
    }

    private static void lower() {
        Check.sentence("then the one nearer to 0, then the lower one");
        DishPointer x = new DishPointer();
        x.setAxis(0, 0, 0);
        Check.due(x.way(0, 18000, 1), x.way(0, -18000, 1));
        Check.dueFrom(17999, (dish, azimuth) -> dish.placeFor(azimuth), x, 17999, -18000, -17999);
        x.set(1, 17999);
        Check.due(x.placeFor(18000), -18000);
        x.slew(1, 9000);
        Check.due(x.placeFor(18000), 18000);
    }

    private static void slewTakesTheGreaterTime() {
        Check.sentence("A slew to an azimuth and an elevation leads both axes at the same time; "
            + "it takes the greater one of the two times");
        Check.due(new DishPointer().slew(0, 9000), 0);
        Check.due(new DishPointer().slew(1, 9000), 1);
        Check.due(new DishPointer().slew(0, 8999), 1);
        Check.due(new DishPointer().slew(9000, 4500), 16);
        Check.due(new DishPointer().slew(9000, 4200), 16);
        Check.due(new DishPointer().slew(9000, 4199), 17);
        Check.due(new DishPointer().slew(8960, 4500), 15);
        DishPointer x = new DishPointer();
        x.slew(9000, 4199);
        Check.due(x.axis(0, 5), 9000);
        Check.due(x.axis(1, 5), 4199);
    }

    private static void timesAreRoundedUp() {
        Check.sentence("the time of an axis is length / speed, rounded up");
        DishPointer x = new DishPointer();
        Check.dueFrom(-1, (dish, place) -> dish.way(0, place, 2), x, 1, 0, 1);
        Check.dueFrom(559, (dish, place) -> dish.way(0, place, 2), x, 1, 1, 2);
        Check.dueFrom(-601, (dish, place) -> dish.way(0, place, 2), x, 2, 1, 1);
        Check.dueFrom(8699, (dish, place) -> dish.way(1, place, 2), x, 2, 1, 1);
        x.setAxis(0, 2, 1);
        Check.dueFrom(-2, (dish, place) -> dish.way(0, place, 2), x, 2, 1, 0, 41);
        x.setAxis(0, 2, 2000);
        Check.dueFrom(-2001, (dish, place) -> dish.way(0, place, 2), x, 2, 1, 1);
        // Both halves of a way make one time.
        x.setAxis(0, 1, 1);
        x.setAxis(0, 2, 240);
        Check.dueFrom(-1, (dish, place) -> dish.way(0, place, 2), x, 2, 1, 1);
    }

    private static void promise7Ranges() {
        Check.sentence("- `place`: -27000 to 27000\n- `what`: 0: where the motor would stand behind it; "
            + "1: its length; 2: its time; 3: its turning place");
        Check.dueRange((x, axis) -> x.way(axis, 0, 0), 0, 1);
        Check.dueRange((x, place) -> x.way(0, place, 0), -27000, 27000);
        Check.dueRange((x, place) -> x.way(1, place, 0), -27000, 27000);
        Check.dueRange((x, what) -> x.way(0, 0, what), 0, 3);
        Check.dueRange((x, what) -> x.way(1, 0, what), 0, 3);
    }

    private static void promise7NotFound() {
        Check.sentence("NOT_FOUND if the way is not possible, for 3 also if it has none.");
        DishPointer x = new DishPointer();
        dueWay(x, 1, 499, NONE, NONE, NONE, NONE);
        dueWay(x, 1, 500, 500, 8500, 29, NONE);
        dueWay(x, 1, -27000, NONE, NONE, NONE, NONE);
        dueWay(x, 1, 27000, NONE, NONE, NONE, NONE);
        dueWay(x, 0, 27000, NONE, NONE, NONE, NONE);
        x.setAxis(0, 1, 1);
        dueWay(x, 0, 1, 41, 41, 1, NONE);
        dueWay(x, 0, 0, 40, 240, 1, -100);
        dueWay(x, 0, -27000, NONE, NONE, NONE, NONE);
        // An argument out of range goes ahead of a way that is not possible.
        Check.due(x.way(1, 499, 4), Check.INVALID);
        Check.due(x.way(1, 499, -1), Check.INVALID);
        Check.due(x.way(0, 27001, 3), Check.INVALID);
    }

    private static void promise7NothingChanges() {
        Check.sentence("Tells something of the way of an axis to a place. Nothing changes.");
        DishPointer asked = withSlack(20);
        DishPointer other = withSlack(20);
        for (int what = -1; what <= 4; what++) {
            asked.way(0, -5000, what);
            asked.way(0, 5000, what);
            asked.way(1, 4000, what);
            asked.way(1, 0, what);
        }
        asked.placeFor(30000);
        asked.isWound();
        Check.dueSame("a dish that was asked", asked, other);
    }

    private static void promise8Ranges() {
        Check.sentence("- `azimuth`: 0 to 35999\n\nReturns the place; INVALID_ARGUMENT if azimuth is out of range; "
            + "NOT_FOUND if there is none.");
        Check.dueRange((x, azimuth) -> x.placeFor(azimuth), 0, 35999);
        // No settings leave an azimuth without a place.
        for (int side = 0; side < 3; side++) {
            DishPointer x = new DishPointer();
            x.setAxis(0, 0, 300);
            x.set(0, 500);
            x.setAxis(0, 1, side);
            for (int azimuth = 0; azimuth < 36000; azimuth += 100) {
                int place = x.placeFor(azimuth);
                Check.due("place for " + azimuth, place == azimuth || place == azimuth - 36000, true);
            }
        }
    }

    private static void promise9Ranges() {
        Check.sentence("- `azimuth`: 0 to 35999\n- `elevation`: 500 to 9000\n\nReturns the time that it would take");
        Check.dueRange((x, azimuth) -> x.slew(azimuth, 5000), 0, 35999);
        Check.dueRange((x, elevation) -> x.slew(5000, elevation), 500, 9000);
        Check.due(new DishPointer().slew(35999, 500), 29);
        Check.due(new DishPointer().slew(0, 9000), 0);
        Check.due(new DishPointer().slew(-1, 499), Check.INVALID);
        Check.due(new DishPointer().slew(36000, 9001), Check.INVALID);
    }

    private static void promise9AtOnce() {
        Check.sentence("Slews the dish to a place at once; no time goes by.");
        DishPointer x = new DishPointer();
        x.gust(0, 59);
        x.add(0, 8500, 0, 100, 1, 0);
        Check.due(x.slew(9000, 500), 29);
        Check.due(x.count(0), 0);
        Check.due(x.count(16), 1);
        Check.due(x.target(0, 6), 0);
        // It is the slew of no target: the push does nothing.
        Check.dueFrom(3, (dish, what) -> dish.axis(0, what), x, 9040, 40, 9000, 9040, 0, 9040);
        // A slew that leads nowhere is one, too.
        Check.due(x.slew(9000, 500), 0);
        Check.due(x.count(16), 2);
        Check.due(x.count(10), 4);
    }

    private static void promise9NotPossible() {
        Check.sentence("NOT_POSSIBLE if a target is under way, the day is a hold, or a way is not possible.");
        DishPointer x = new DishPointer();
        x.add(9000, 4500, 0, 200, 30, 1);
        Check.due(x.slew(0, 8000), 4);
        x.run(0);
        Check.due(x.slew(0, 8000), Check.NOT_POSSIBLE);
        Check.due(x.slew(0, 9001), Check.INVALID);
        x.run(45);
        Check.due(x.slew(0, 8000), Check.NOT_POSSIBLE);
        x.run(1);
        Check.due(x.slew(0, 8000), 16);
        x.gust(1, 60);
        x.run(1393);
        Check.due(x.slew(0, 5000), 11);
        x.run(1);
        Check.due(x.slew(0, 5000), Check.NOT_POSSIBLE);
        Check.due(x.slew(36000, 5000), Check.INVALID);
        x.run(1439);
        Check.due(x.slew(0, 5000), Check.NOT_POSSIBLE);
        x.run(1);
        Check.due(x.slew(0, 5000), 14);
        Check.due(x.slew(0, 8980), 14);
        Check.due(x.slew(0, 8981), Check.NOT_POSSIBLE);
        Check.due(x.slew(9000, 8981), Check.NOT_POSSIBLE);
        Check.due(x.axis(0, 5), 0);
    }

    private static void promise10Beyond() {
        Check.sentence("Tells whether the cable is wound: the motor of the azimuth stands beyond -W to W.\n\n"
            + "Returns 1 if it does, otherwise 0.");
        DishPointer x = new DishPointer();
        Check.due(x.isWound(), 0);
        x.set(1, 0);
        Check.due(x.isWound(), 0);
        x.slew(35999, 9000);
        Check.due(x.isWound(), 1);
        int[] azimuths = {9000, 27000};
        int[] motors = {9040, 9000};
        for (int i = 0; i < azimuths.length; i++) {
            x = new DishPointer();
            x.slew(azimuths[i], 9000);
            x.set(1, motors[i]);
            Check.due(x.isWound(), 0);
            x.set(1, motors[i] - 1);
            Check.due(x.isWound(), 1);
            x.set(1, 27000);
            Check.due(x.isWound(), 0);
        }
    }
}
