/** Promises 7 to 10: way, placeFor, slew, isWound. */
public final class WaysTest {
    private static final int NONE = Check.NOT_FOUND;

    public static void main(String[] args) {
        promise7SideAny();
        promise7SideBelow();
        promise7SideAbove();
        promise7Overshoot();
        promise7WithinThePlay();
        promise7Range();
        promise7Wrong();
        promise8PlaceFor();
        promise8Wind();
        promise8ShortestThenNearerThenLower();
        promise8PossibleOnes();
        promise9Slew();
        promise9NotPossible();
        promise9Wrong();
        promise10IsWound();
        Check.end();
    }

    private static void dueWay(DishPointer x, int axis, int place, int end, int length, int time, int turn) {
        Check.due("end to " + place, x.way(axis, place, 0), end);
        Check.due("length to " + place, x.way(axis, place, 1), length);
        Check.due("time to " + place, x.way(axis, place, 2), time);
        Check.due("turn to " + place, x.way(axis, place, 3), turn);
    }

    private static void dueNoWay(DishPointer x, int axis, int place) {
        dueWay(x, axis, place, NONE, NONE, NONE, NONE);
    }

    private static void promise7SideAny() {
        DishPointer x = new DishPointer();
        dueWay(x, 0, 0, 0, 0, 0, NONE);
        dueWay(x, 0, 1, 41, 41, 1, NONE);
        dueWay(x, 0, 560, 600, 600, 1, NONE);
        dueWay(x, 0, 561, 601, 601, 2, NONE);
        dueWay(x, 0, -1, -1, 1, 1, NONE);
        dueWay(x, 0, -600, -600, 600, 1, NONE);
        dueWay(x, 0, -601, -601, 601, 2, NONE);
        x.setAxis(0, 2, 1);
        dueWay(x, 0, 1, 41, 41, 41, NONE);
        x.setAxis(1, 2, 2000);
        dueWay(x, 1, 5000, 5000, 4000, 2, NONE);
        Check.due(x.count(10), 2);
        Check.due(x.axis(0, 3), 0);
        Check.due(x.count(16), 0);
    }

    private static void promise7SideBelow() {
        DishPointer x = new DishPointer();
        x.setAxis(0, 1, 1);
        dueWay(x, 0, 1000, 1040, 1040, 2, NONE);
        dueWay(x, 0, 1, 41, 41, 1, NONE);
        // It stands there, but not from below.
        dueWay(x, 0, 0, 40, 240, 1, -100);
        dueWay(x, 0, -1000, -960, 1240, 3, -1100);
        x.slew(1000, 9000);
        dueWay(x, 0, 1000, 1040, 0, 0, NONE);
        dueWay(x, 0, 1001, 1041, 1, 1, NONE);
        dueWay(x, 0, 999, 1039, 141 + 140, 1, 899);
        // The other axis keeps its own side.
        dueWay(x, 1, 8000, 8000, 1000, 4, NONE);
    }

    private static void promise7SideAbove() {
        DishPointer x = new DishPointer();
        x.setAxis(0, 1, 2);
        dueWay(x, 0, 0, 0, 0, 0, NONE);
        dueWay(x, 0, -1000, -1000, 1000, 2, NONE);
        dueWay(x, 0, 1000, 1000, 1280, 3, 1140);
        x.setAxis(0, 1, 0);
        x.slew(1000, 9000);
        x.setAxis(0, 1, 2);
        // It stands there, but not from above.
        dueWay(x, 0, 1000, 1000, 240, 1, 1140);
        dueWay(x, 0, 999, 999, 41, 1, NONE);
        dueWay(x, 0, 1001, 1001, 241, 1, 1141);
        x.setAxis(1, 1, 2);
        dueWay(x, 1, 8000, 8000, 1000, 4, NONE);
    }

    private static void promise7Overshoot() {
        DishPointer x = new DishPointer();
        x.set(0, 0);
        x.setAxis(0, 1, 1);
        // The motor stands at its turning place already.
        dueWay(x, 0, 0, 40, 40, 1, 0);
        dueWay(x, 0, -10, 30, 10 + 40, 1, -10);
        x.setAxis(0, 1, 2);
        x.setAxis(0, 0, 0);
        dueWay(x, 0, 10, 10, 10, 1, 10);
        dueWay(x, 0, 0, 0, 0, 0, NONE);
        x.setAxis(0, 1, 1);
        dueWay(x, 0, 0, 0, 0, 0, NONE);
        x.set(0, 500);
        x.setAxis(0, 0, 300);
        dueWay(x, 0, 0, 300, 500 + 800, 3, -500);
        x.setAxis(0, 1, 2);
        dueWay(x, 0, 1, 1, 801 + 800, 3, 801);
    }

    /** A slack between 0 and the play. */
    private static void promise7WithinThePlay() {
        DishPointer x = new DishPointer();
        x.slew(9000, 9000);
        x.setAxis(0, 0, 20);
        x.setAxis(0, 0, 40);
        Check.due(x.axis(0, 5), 9020);
        dueWay(x, 0, 9020, 9040, 0, 0, NONE);
        dueWay(x, 0, 9021, 9061, 21, 1, NONE);
        dueWay(x, 0, 9019, 9019, 21, 1, NONE);
        x.setAxis(0, 1, 1);
        dueWay(x, 0, 9020, 9060, 120 + 140, 1, 8920);
        dueWay(x, 0, 9021, 9061, 21, 1, NONE);
        x.setAxis(0, 1, 2);
        dueWay(x, 0, 9020, 9020, 120 + 140, 1, 9160);
        dueWay(x, 0, 9019, 9019, 21, 1, NONE);
    }

    private static void promise7Range() {
        DishPointer x = new DishPointer();
        dueWay(x, 0, 26960, 27000, 27000, 45, NONE);
        dueNoWay(x, 0, 26961);
        dueWay(x, 0, -27000, -27000, 27000, 45, NONE);
        dueWay(x, 1, 500, 500, 8500, 29, NONE);
        dueNoWay(x, 1, 499);
        dueNoWay(x, 1, 9001);
        dueNoWay(x, 1, -27000);
        dueNoWay(x, 1, 27000);
        x.setAxis(0, 1, 1);
        dueWay(x, 0, -26900, -26860, 27140, 46, -27000);
        dueNoWay(x, 0, -26901);
        x.setAxis(0, 1, 2);
        dueWay(x, 0, 26860, 26860, 27140, 46, 27000);
        dueNoWay(x, 0, 26861);
        x.setAxis(1, 1, 1);
        dueWay(x, 1, 600, 620, 8500 + 120, 29, 500);
        dueNoWay(x, 1, 599);
        dueWay(x, 1, 8980, 9000, 120 + 120, 1, 8880);
        dueNoWay(x, 1, 8981);
        dueNoWay(x, 1, 9000);
        x.setAxis(1, 1, 2);
        dueWay(x, 1, 9000, 9000, 0, 0, NONE);
        x.slew(0, 5000);
        dueWay(x, 1, 8880, 8880, 4000 + 120, 14, 9000);
        dueNoWay(x, 1, 8881);
    }

    private static void promise7Wrong() {
        DishPointer x = new DishPointer();
        Check.due(x.way(-1, 0, 0), Check.INVALID);
        Check.due(x.way(2, 0, 0), Check.INVALID);
        Check.due(x.way(0, -27001, 0), Check.INVALID);
        Check.due(x.way(0, 27001, 0), Check.INVALID);
        Check.due(x.way(1, 27001, 0), Check.INVALID);
        Check.due(x.way(0, 0, -1), Check.INVALID);
        Check.due(x.way(0, 0, 4), Check.INVALID);
        // An argument out of its range goes ahead of a way that is not possible.
        Check.due(x.way(1, 27000, 4), Check.INVALID);
        Check.due(x.way(0, Integer.MIN_VALUE, 0), Check.INVALID);
        Check.due(x.way(0, Integer.MAX_VALUE, 0), Check.INVALID);
    }

    private static void promise8PlaceFor() {
        DishPointer x = new DishPointer();
        Check.due(x.placeFor(0), 0);
        Check.due(x.placeFor(17979), 17979);
        Check.due(x.placeFor(17999), 17999);
        Check.due(x.placeFor(18000), -18000);
        Check.due(x.placeFor(35999), -1);
        Check.due(x.placeFor(-1), Check.INVALID);
        Check.due(x.placeFor(36000), Check.INVALID);
        Check.due(x.placeFor(Integer.MIN_VALUE), Check.INVALID);
        Check.due(x.placeFor(Integer.MAX_VALUE), Check.INVALID);
        Check.due(x.count(10), 0);
        Check.due(x.axis(0, 3), 0);
    }

    private static void promise8Wind() {
        DishPointer x = new DishPointer();
        x.slew(9000, 5000);
        x.slew(18000, 5000);
        Check.due(x.axis(0, 3), 18040);
        // The longer way around is taken for the sake of the cable.
        Check.due(x.placeFor(20000), -16000);
        x.set(1, 19999);
        Check.due(x.placeFor(20000), -16000);
        x.set(1, 20000);
        Check.due(x.placeFor(20000), 20000);
        x.set(1, 16000);
        Check.due(x.placeFor(20000), -16000);
        x.set(1, 15999);
        Check.due(x.placeFor(20000), 20000);
        x.set(1, 0);
        Check.due(x.placeFor(0), 0);
        Check.due(x.placeFor(26000), 26000);
    }

    private static void promise8ShortestThenNearerThenLower() {
        DishPointer x = new DishPointer();
        x.set(1, 27000);
        Check.due(x.placeFor(17979), 17979);
        Check.due(x.placeFor(17980), 17980);
        Check.due(x.placeFor(17981), -18019);
        x.slew(35000, 5000);
        x.slew(0, 5000);
        Check.due(x.axis(0, 3), 40);
        Check.due(x.placeFor(18019), 18019);
        Check.due(x.placeFor(18020), -17980);
        x = new DishPointer();
        x.setAxis(0, 0, 0);
        Check.due(x.placeFor(18000), -18000);
        Check.due(x.placeFor(17999), 17999);
    }

    private static void promise8PossibleOnes() {
        DishPointer x = new DishPointer();
        x.set(1, 0);
        x.slew(18000, 5000);
        x.set(1, 27000);
        Check.due(x.axis(0, 3), -18000);
        // 9000 is far, but -27000 is the end of the range.
        Check.due(x.placeFor(9000), -27000);
        Check.due(x.placeFor(8999), 8999);
        x.setAxis(0, 1, 1);
        Check.due(x.placeFor(9000), 9000);
        Check.due(x.placeFor(9099), 9099);
        Check.due(x.placeFor(9100), -26900);
        // The dish pushed beyond the range of its motor stands at a place, too.
        x = new DishPointer();
        x.set(1, 27000);
        x.slew(27000, 8500);
        x.slew(18000, 8500);
        x.run(1440);
        x.gust(1, 30);
        x.add(9000, 8500, 0, 4000, 5, 0);
        x.run(16);
        Check.due(x.axis(0, 3), -27000);
        Check.due(x.axis(0, 5), -27040);
        Check.due(x.placeFor(8960), 8960);
        x.set(1, 8959);
        Check.due(x.placeFor(8960), -27040);
        x.setAxis(0, 1, 1);
        Check.due(x.placeFor(8960), -27040);
        x.setAxis(0, 1, 2);
        Check.due(x.placeFor(8960), 8960);
    }

    private static void promise9Slew() {
        DishPointer x = new DishPointer();
        x.gust(0, 30);
        Check.due(x.slew(9000, 4500), 16);
        Check.due(x.axis(0, 3), 9040);
        Check.due(x.axis(0, 4), 40);
        Check.due(x.axis(1, 3), 4500);
        Check.due(x.count(0), 0);
        Check.due(x.count(16), 1);
        Check.due(x.count(10), 2);
        Check.due(x.slew(9000, 500), 14);
        Check.due(x.slew(9000, 500), 0);
        Check.due(x.count(16), 3);
        Check.due(x.slew(35999, 8980), 29);
        Check.due(x.axis(0, 3), -1);
        Check.due(x.axis(1, 3), 9000);
        Check.due(x.axis(1, 4), 20);
        Check.due(x.count(4), 0);
        x.setAxis(0, 1, 2);
        Check.due(x.slew(0, 8980), 1);
        Check.due(x.axis(0, 6), 9040 + 141);
        Check.due(x.axis(0, 7), 9041 + 140);
        Check.due(x.axis(0, 4), 0);
    }

    private static void promise9NotPossible() {
        DishPointer x = new DishPointer();
        x.setAxis(1, 1, 1);
        Check.due(x.slew(9000, 9000), Check.NOT_POSSIBLE);
        Check.due(x.axis(0, 3), 0);
        Check.due(x.count(16), 0);
        Check.due(x.count(10), 1);
        Check.due(x.slew(9000, 8980), 16);
        x.set(3, 0);
        Check.due(x.slew(9000, 8980), Check.NOT_POSSIBLE);
        x.set(3, 60);
        x.add(9000, 4500, 0, 200, 30, 1);
        Check.due(x.slew(9000, 8980), 0);
        x.run(0);
        Check.due(x.slew(9000, 8980), Check.NOT_POSSIBLE);
        Check.due(x.slew(36000, 8980), Check.INVALID);
        x.run(100);
        Check.due(x.count(6), 1);
        Check.due(x.slew(9000, 8980), 15);
    }

    private static void promise9Wrong() {
        DishPointer x = new DishPointer();
        Check.due(x.slew(-1, 5000), Check.INVALID);
        Check.due(x.slew(36000, 5000), Check.INVALID);
        Check.due(x.slew(0, 499), Check.INVALID);
        Check.due(x.slew(0, 9001), Check.INVALID);
        Check.due(x.slew(Integer.MIN_VALUE, Integer.MAX_VALUE), Check.INVALID);
        Check.due(x.count(10), 0);
        Check.due(x.count(16), 0);
        Check.due(x.slew(0, 9000), 0);
        Check.due(x.slew(35999, 500), 29);
    }

    private static void promise10IsWound() {
        DishPointer x = new DishPointer();
        Check.due(x.isWound(), 0);
        x.slew(9000, 5000);
        x.set(1, 9040);
        Check.due(x.isWound(), 0);
        // The motor counts, not the dish.
        x.set(1, 9039);
        Check.due(x.isWound(), 1);
        x.set(1, 0);
        Check.due(x.isWound(), 1);
        x.set(1, 18000);
        x.slew(27000, 5000);
        x.set(1, 9000);
        Check.due(x.isWound(), 0);
        x.set(1, 8999);
        Check.due(x.isWound(), 1);
        Check.due(new DishPointer().set(1, 0), 18000);
    }
}
