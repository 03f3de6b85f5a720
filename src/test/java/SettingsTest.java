/** Promises 1 to 6: a new object, set, setAxis, gust, count, axis. */
public final class SettingsTest {
    public static void main(String[] args) {
        promise1NewObject();
        promise2Set();
        promise2SetWrong();
        promise2SetTakesEffect();
        promise3SetAxis();
        promise3SetAxisWrong();
        promise3SlackFollowsPlay();
        promise4Gust();
        promise4GustOfPast();
        promise5CountOfDay();
        promise5CountOfTargets();
        promise5CountOfDish();
        promise6Axis();
        Check.end();
    }

    private static void promise1NewObject() {
        DishPointer x = new DishPointer();
        int[] counts = {0, 0, 0, 2, 0, 0, 0, 0, Check.NOT_FOUND, Check.NOT_FOUND, 0, 0,
            100, 18000, 30, 60, 0, 0, 0};
        for (int what = 0; what < counts.length; what++) {
            Check.due(x.count(what), counts[what]);
        }
        int[] azimuth = {40, 0, 600, 0, 0, 0, 0, 0, 0};
        int[] elevation = {20, 0, 300, 9000, 0, 9000, 0, 0, 9000};
        for (int what = 0; what < azimuth.length; what++) {
            Check.due(x.axis(0, what), azimuth[what]);
            Check.due(x.axis(1, what), elevation[what]);
        }
        for (int day = 0; day < 30; day++) {
            Check.due(x.gust(day, 0), 0);
        }
        Check.due(x.target(0, 6), Check.INVALID);
        Check.due(x.fault(0), Check.NOT_FOUND);
        Check.due(new DishPointer().undo(), Check.NOT_POSSIBLE);
    }

    private static void promise2Set() {
        int[] most = {500, 27000, 100, 100};
        int[] first = {100, 18000, 30, 60};
        for (int what = 0; what < 4; what++) {
            DishPointer x = new DishPointer();
            Check.due(x.set(what, most[what]), first[what]);
            Check.due(x.set(what, 0), most[what]);
            Check.due(x.set(what, 7), 0);
            Check.due(x.count(12 + what), 7);
            Check.due(x.count(10), 3);
            for (int other = 0; other < 4; other++) {
                Check.due(x.count(12 + other), other == what ? 7 : first[other]);
            }
        }
    }

    private static void promise2SetWrong() {
        int[] most = {500, 27000, 100, 100};
        int[] first = {100, 18000, 30, 60};
        DishPointer x = new DishPointer();
        for (int what = 0; what < 4; what++) {
            Check.due(x.set(what, -1), Check.INVALID);
            Check.due(x.set(what, most[what] + 1), Check.INVALID);
            Check.due(x.set(what, Integer.MIN_VALUE), Check.INVALID);
            Check.due(x.set(what, Integer.MAX_VALUE), Check.INVALID);
            Check.due(x.count(12 + what), first[what]);
        }
        Check.due(x.set(-1, 5), Check.INVALID);
        Check.due(x.set(4, 5), Check.INVALID);
        Check.due(x.set(Integer.MAX_VALUE, 5), Check.INVALID);
        Check.due(x.set(Integer.MIN_VALUE, 5), Check.INVALID);
        Check.due(x.count(10), 0);
    }

    private static void promise2SetTakesEffect() {
        DishPointer x = new DishPointer();
        x.set(2, 0);
        Check.due(x.count(3), 1);
        x.set(3, 0);
        Check.due(x.count(3), 0);
        x.setAxis(0, 1, 1);
        x.set(0, 0);
        Check.due(x.way(0, -1000, 3), -1000);
        x.set(0, 500);
        Check.due(x.way(0, -1000, 3), -1500);
        Check.due(x.placeFor(20000), -16000);
        x.set(1, 10000);
        Check.due(x.placeFor(27000), -9000);
    }

    private static void promise3SetAxis() {
        int[][] first = {{40, 0, 600}, {20, 0, 300}};
        int[] least = {0, 0, 1};
        int[] most = {300, 2, 2000};
        for (int axis = 0; axis < 2; axis++) {
            for (int what = 0; what < 3; what++) {
                DishPointer x = new DishPointer();
                Check.due(x.setAxis(axis, what, most[what]), first[axis][what]);
                Check.due(x.setAxis(axis, what, least[what]), most[what]);
                Check.due(x.setAxis(axis, what, 1), least[what]);
                Check.due(x.axis(axis, what), 1);
                Check.due(x.axis(1 - axis, what), first[1 - axis][what]);
                Check.due(x.count(10), 3);
            }
        }
    }

    private static void promise3SetAxisWrong() {
        int[] least = {0, 0, 1};
        int[] most = {300, 2, 2000};
        DishPointer x = new DishPointer();
        for (int what = 0; what < 3; what++) {
            for (int axis = 0; axis < 2; axis++) {
                int before = x.axis(axis, what);
                Check.due(x.setAxis(axis, what, least[what] - 1), Check.INVALID);
                Check.due(x.setAxis(axis, what, most[what] + 1), Check.INVALID);
                Check.due(x.axis(axis, what), before);
            }
            Check.due(x.setAxis(-1, what, 1), Check.INVALID);
            Check.due(x.setAxis(2, what, 1), Check.INVALID);
        }
        Check.due(x.setAxis(0, -1, 1), Check.INVALID);
        Check.due(x.setAxis(0, 3, 1), Check.INVALID);
        Check.due(x.setAxis(Integer.MIN_VALUE, Integer.MIN_VALUE, Integer.MIN_VALUE), Check.INVALID);
        Check.due(x.setAxis(Integer.MAX_VALUE, Integer.MAX_VALUE, Integer.MAX_VALUE), Check.INVALID);
        Check.due(x.count(10), 0);
    }

    private static void promise3SlackFollowsPlay() {
        DishPointer x = new DishPointer();
        x.slew(9000, 4500);
        Check.due(x.axis(0, 4), 40);
        Check.due(x.setAxis(0, 0, 25), 40);
        Check.due(x.axis(0, 4), 25);
        Check.due(x.axis(0, 5), 9015);
        Check.due(x.setAxis(0, 0, 300), 25);
        Check.due(x.axis(0, 4), 25);
        Check.due(x.axis(0, 3), 9040);
        Check.due(x.setAxis(0, 0, 25), 300);
        Check.due(x.axis(0, 4), 25);
    }

    private static void promise4Gust() {
        DishPointer x = new DishPointer();
        Check.due(x.gust(0, 99), 0);
        Check.due(x.gust(0, 29), 99);
        Check.due(x.gust(29, 5), 0);
        Check.due(x.gust(29, 0), 5);
        Check.due(x.count(2), 29);
        Check.due(x.count(10), 4);
        Check.due(x.gust(-1, 5), Check.INVALID);
        Check.due(x.gust(30, 5), Check.INVALID);
        Check.due(x.gust(0, -1), Check.INVALID);
        Check.due(x.gust(0, 100), Check.INVALID);
        Check.due(x.gust(Integer.MIN_VALUE, 5), Check.INVALID);
        Check.due(x.gust(Integer.MAX_VALUE, 5), Check.INVALID);
        Check.due(x.count(2), 29);
        Check.due(x.count(10), 4);
    }

    private static void promise4GustOfPast() {
        DishPointer x = new DishPointer();
        x.run(1);
        Check.due(x.gust(0, 5), Check.NOT_POSSIBLE);
        Check.due(x.gust(0, 100), Check.INVALID);
        x.run(1439);
        Check.due(x.gust(0, 5), Check.NOT_POSSIBLE);
        Check.due(x.gust(1, 5), 0);
        Check.due(x.count(2), 5);
        x.run(1);
        Check.due(x.gust(1, 6), Check.NOT_POSSIBLE);
        Check.due(x.gust(2, 6), 0);
        Check.due(x.count(2), 5);
    }

    private static void promise5CountOfDay() {
        DishPointer x = new DishPointer();
        x.gust(0, 29);
        x.gust(1, 30);
        x.gust(2, 59);
        x.gust(3, 60);
        int[] kinds = {2, 1, 1, 0, 2};
        int[] gusts = {29, 30, 59, 60, 0};
        for (int day = 0; day < 5; day++) {
            Check.due(x.count(0), 1440 * day);
            Check.due(x.count(1), day);
            Check.due(x.count(2), gusts[day]);
            Check.due(x.count(3), kinds[day]);
            x.run(1439);
            Check.due(x.count(0), 1440 * day + 1439);
            Check.due(x.count(1), day);
            Check.due(x.count(3), kinds[day]);
            x.run(1);
        }
        Check.due(x.count(17), 1);
        // A limit of 100 is above every gust, and a hold goes ahead of a push.
        x.gust(6, 99);
        x.run(1440);
        Check.due(x.count(3), 0);
        x.set(3, 100);
        Check.due(x.count(3), 1);
        x.set(2, 100);
        Check.due(x.count(3), 2);
        x.set(3, 99);
        Check.due(x.count(3), 0);
    }

    private static void promise5CountOfTargets() {
        DishPointer x = new DishPointer();
        x.add(9000, 4500, 0, 200, 30, 1);
        x.add(9000, 4500, 0, 20, 30, 1);
        x.add(9000, 4500, 100, 200, 30, 1);
        Check.due(x.count(4), 3);
        Check.due(x.count(5), 3);
        Check.due(x.count(8), Check.NOT_FOUND);
        x.run(0);
        Check.due(x.count(5), 2);
        Check.due(x.count(8), 0);
        Check.due(x.count(9), 46);
        Check.due(x.count(16), 1);
        x.run(45);
        Check.due(x.count(9), 1);
        Check.due(x.count(6), 0);
        Check.due(x.count(7), 1);
        x.run(1);
        Check.due(x.count(9), Check.NOT_FOUND);
        Check.due(x.count(8), Check.NOT_FOUND);
        Check.due(x.count(4), 3);
        Check.due(x.count(5), 1);
        Check.due(x.count(6), 1);
        Check.due(x.count(7), 1);
        x.drop(0);
        Check.due(x.count(6), 0);
        x.run(60);
        Check.due(x.count(8), 1);
        x.drop(0);
        Check.due(x.count(7), 0);
        Check.due(x.count(8), 0);
    }

    private static void promise5CountOfDish() {
        DishPointer x = new DishPointer();
        x.slew(35999, 5000);
        Check.due(x.axis(0, 5), -1);
        Check.due(x.count(18), 35999);
        x.slew(0, 5000);
        Check.due(x.count(18), 0);
        x.slew(27000, 5000);
        Check.due(x.count(18), 27000);
        Check.due(x.count(16), 3);
        x.type('a');
        Check.due(x.count(11), 1);
        Check.due(x.count(10), 3);
        Check.due(x.count(-1), Check.INVALID);
        Check.due(x.count(19), Check.INVALID);
        Check.due(x.count(Integer.MIN_VALUE), Check.INVALID);
        Check.due(x.count(Integer.MAX_VALUE), Check.INVALID);
    }

    private static void promise6Axis() {
        DishPointer x = new DishPointer();
        x.slew(9000, 4500);
        x.slew(8990, 4510);
        int[] azimuth = {40, 0, 600, 8990, 0, 8990, 9040, 50, 8990};
        int[] elevation = {20, 0, 300, 4530, 20, 4510, 30, 4500, 4530};
        for (int what = 0; what < 9; what++) {
            Check.due(x.axis(0, what), azimuth[what]);
            Check.due(x.axis(1, what), elevation[what]);
        }
        // Less than the play: the dish follows only when the play is used up.
        x.setAxis(0, 0, 300);
        x.slew(8980, 4510);
        Check.due(x.axis(0, 3), 8980);
        x.slew(8981, 4510);
        Check.due(x.axis(0, 3), 9281);
        Check.due(x.axis(0, 4), 300);
        Check.due(x.axis(0, 6), 9341);
        Check.due(x.axis(0, 7), 60);
        // A way with a turning place is counted up and down.
        x.setAxis(0, 1, 1);
        x.slew(8981, 4510);
        Check.due(x.axis(0, 6), 9341);
        x.slew(8980, 4510);
        Check.due(x.axis(0, 3), 9280);
        Check.due(x.axis(0, 7), 60 + 401);
        Check.due(x.axis(0, 6), 9341 + 400);
        Check.due(x.axis(0, 8), 9280);
        Check.due(x.axis(-1, 0), Check.INVALID);
        Check.due(x.axis(2, 0), Check.INVALID);
        Check.due(x.axis(0, -1), Check.INVALID);
        Check.due(x.axis(1, 9), Check.INVALID);
        Check.due(x.axis(Integer.MAX_VALUE, Integer.MIN_VALUE), Check.INVALID);
        Check.due(x.count(10), 5);
    }
}
