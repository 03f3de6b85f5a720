/** Promises 16 and 17: run and ifRun. */
public final class MinutesTest {
    private static final int NONE = Check.NOT_FOUND;

    public static void main(String[] args) {
        promise16BeginAndDone();
        promise16OneAfterTheOther();
        promise16Missed();
        promise16BeginsWhenTheWindowDoes();
        promise16PushOnEvenDay();
        promise16PushOnOddDay();
        promise16PushOnLaterDays();
        promise16PushAtOnce();
        promise16SlewIsLookedAtOnce();
        promise16DayOfTheFinishedSlewCounts();
        promise16SetUnderWay();
        promise16HoldBreaksOff();
        promise16HoldGoesAheadOfDone();
        promise16HoldDuringSlew();
        promise16HoldGoesAheadOfMissed();
        promise16HoldAfterHold();
        promise16HoldThatDoesNotBegin();
        promise16DayThatBecomesHoldUnderWay();
        promise16HoldEnds();
        promise16LastDay();
        promise16Wrong();
        promise17IfRun();
        promise17NothingChanges();
        promise17Wrong();
        Check.end();
    }

    private static DishPointer withTarget(int from, int to, int dwell) {
        DishPointer x = new DishPointer();
        x.add(9000, 4500, from, to, dwell, 1);
        return x;
    }

    private static void promise16BeginAndDone() {
        DishPointer x = withTarget(0, 200, 30);
        Check.due(x.run(0), 0);
        Check.due(x.count(0), 0);
        Check.due(x.target(0, 6), 1);
        Check.due(x.axis(0, 3), 9040);
        Check.due(x.axis(0, 6), 9040);
        Check.due(x.axis(1, 3), 4500);
        Check.due(x.axis(1, 7), 4500);
        Check.due(x.count(16), 1);
        Check.due(x.run(0), 0);
        Check.due(x.count(16), 1);
        Check.due(x.run(45), 0);
        Check.due(x.count(0), 45);
        Check.due(x.target(0, 6), 1);
        Check.due(x.run(1), 1);
        Check.due(x.target(0, 6), 2);
        Check.due(x.target(0, 10), 0);
        Check.due(x.run(0), 0);
        Check.due(x.run(2000), 0);
        Check.due(x.count(0), 2046);
        Check.due(x.count(6), 1);
        Check.due(x.count(16), 1);
    }

    private static void promise16OneAfterTheOther() {
        DishPointer x = withTarget(0, 300, 30);
        x.add(10000, 4500, 0, 300, 10, 0);
        x.add(11000, 4500, 0, 300, 10, 2);
        Check.due(x.run(100), 3);
        Check.due(x.target(2, 7), 0);
        Check.due(x.target(2, 8), 19);
        Check.due(x.target(2, 9), 29);
        // At the minute at which one is done, the next one is begun.
        Check.due(x.target(0, 7), 29);
        Check.due(x.target(0, 8), 33);
        Check.due(x.target(0, 9), 63);
        Check.due(x.target(1, 7), 63);
        Check.due(x.target(1, 8), 65);
        Check.due(x.target(1, 9), 75);
        Check.due(x.count(0), 100);
        Check.due(x.count(16), 3);
    }

    private static void promise16Missed() {
        DishPointer x = withTarget(0, 40, 30);
        x.run(39);
        Check.due(x.target(0, 6), 0);
        Check.due(x.count(7), 0);
        Check.due(x.run(1), 0);
        Check.due(x.target(0, 6), 3);
        Check.due(x.count(7), 1);
        // It is missed while another one is under way, too.
        x = withTarget(0, 200, 30);
        x.add(9000, 4500, 0, 20, 1, 0);
        x.run(19);
        Check.due(x.target(1, 6), 0);
        x.run(1);
        Check.due(x.target(1, 6), 3);
        Check.due(x.target(0, 6), 1);
    }

    private static void promise16BeginsWhenTheWindowDoes() {
        DishPointer x = withTarget(100, 146, 30);
        x.run(99);
        Check.due(x.target(0, 6), 0);
        x.run(1);
        Check.due(x.target(0, 7), 100);
        Check.due(x.run(46), 1);
        Check.due(x.target(0, 9), 146);
        x = withTarget(100, 145, 30);
        x.run(200);
        Check.due(x.target(0, 6), 3);
    }

    private static void promise16PushOnEvenDay() {
        DishPointer x = withTarget(0, 200, 30);
        x.gust(0, 30);
        x.run(15);
        Check.due(x.axis(0, 4), 40);
        x.run(1);
        Check.due(x.axis(0, 4), 0);
        Check.due(x.axis(0, 5), 9040);
        Check.due(x.axis(0, 3), 9040);
        Check.due(x.axis(0, 6), 9040);
        Check.due(x.axis(1, 4), 0);
        Check.due(x.target(0, 10), NONE);
        Check.due(x.run(30), 1);
        Check.due(x.target(0, 10), 40);
        // Below the push limit, there is no push.
        x = withTarget(0, 200, 30);
        x.gust(0, 29);
        x.run(46);
        Check.due(x.target(0, 10), 0);
    }

    private static void promise16PushOnOddDay() {
        DishPointer x = new DishPointer();
        x.run(1440);
        x.gust(1, 59);
        x.add(27000, 4500, 0, 2000, 30, 0);
        x.run(15);
        Check.due(x.axis(0, 3), -9000);
        Check.due(x.axis(0, 4), 40);
        Check.due(x.axis(0, 5), -9040);
        Check.due(x.axis(0, 7), 9000);
        x.run(30);
        Check.due(x.target(0, 10), -40);
        // On an odd day, a dish that hangs behind already does not move.
        x = new DishPointer();
        x.run(1440);
        x.gust(1, 59);
        x.add(9000, 4500, 0, 2000, 30, 0);
        Check.due(x.run(46), 1);
        Check.due(x.axis(0, 4), 40);
        Check.due(x.target(0, 10), 0);
    }

    private static void promise16PushOnLaterDays() {
        DishPointer x = new DishPointer();
        x.run(1440);
        x.run(1440);
        x.run(1440);
        x.gust(3, 30);
        x.add(27000, 4500, 0, 43200, 30, 0);
        x.run(45);
        Check.due(x.target(0, 10), -40);
        // Begun again behind a hold, its slew is looked at again.
        x = withTarget(1000, 5000, 600);
        x.gust(1, 60);
        x.gust(2, 30);
        x.run(1439);
        Check.due(x.target(0, 8), 1016);
        Check.due(x.axis(0, 4), 40);
        x.run(1441);
        Check.due(x.target(0, 8), 2895);
        Check.due(x.axis(0, 4), 40);
        x.run(15);
        Check.due(x.axis(0, 4), 0);
        Check.due(x.run(600), 1);
        Check.due(x.target(0, 10), 40);
    }

    private static void promise16PushAtOnce() {
        DishPointer x = new DishPointer();
        x.slew(0, 8500);
        x.run(1440);
        x.gust(1, 30);
        x.add(0, 8500, 0, 2000, 5, 0);
        x.run(0);
        Check.due(x.target(0, 7), 1440);
        Check.due(x.target(0, 8), 1440);
        Check.due(x.target(0, 9), 1445);
        Check.due(x.axis(0, 4), 40);
        Check.due(x.axis(0, 6), 0);
        x.setAxis(0, 0, 0);
        x.setAxis(0, 0, 50);
        x.run(0);
        Check.due(x.axis(0, 4), 0);
        x.setAxis(0, 0, 30);
        Check.due(x.run(5), 1);
        Check.due(x.target(0, 10), 0);
    }

    private static void promise16SlewIsLookedAtOnce() {
        DishPointer x = withTarget(0, 200, 30);
        x.run(16);
        x.set(2, 0);
        x.run(0);
        Check.due(x.axis(0, 4), 40);
        x.run(30);
        Check.due(x.target(0, 10), 0);
        // What is set ahead of that minute counts.
        x = withTarget(0, 200, 30);
        x.run(15);
        x.set(2, 0);
        x.run(0);
        Check.due(x.axis(0, 4), 40);
        x.run(1);
        Check.due(x.axis(0, 4), 0);
    }

    private static void promise16DayOfTheFinishedSlewCounts() {
        DishPointer x = withTarget(1430, 3000, 30);
        x.gust(0, 30);
        x.run(1450);
        Check.due(x.target(0, 8), 1446);
        Check.due(x.axis(0, 4), 40);
        x = new DishPointer();
        x.gust(1, 30);
        x.add(27000, 4500, 1430, 3000, 30, 1);
        x.run(1450);
        Check.due(x.axis(0, 4), 40);
        x = new DishPointer();
        x.gust(0, 30);
        x.gust(1, 30);
        x.add(9000, 4500, 1423, 3000, 30, 1);
        x.run(1439);
        Check.due(x.axis(0, 4), 0);
    }

    private static void promise16SetUnderWay() {
        DishPointer x = withTarget(0, 200, 30);
        x.run(5);
        x.setAxis(0, 2, 1);
        x.setAxis(0, 1, 2);
        x.set(0, 500);
        x.set(1, 0);
        Check.due(x.target(0, 8), 16);
        Check.due(x.target(0, 9), 46);
        Check.due(x.axis(0, 3), 9040);
        x.setAxis(0, 0, 10);
        Check.due(x.axis(0, 5), 9030);
        Check.due(x.run(41), 1);
        Check.due(x.target(0, 10), 30);
        Check.due(x.target(0, 12), 9000);
        // The error is that of the minute at which it becomes done.
        x.setAxis(0, 0, 0);
        x.run(1);
        Check.due(x.target(0, 10), 30);
    }

    private static void promise16HoldBreaksOff() {
        DishPointer x = withTarget(1400, 5000, 100);
        x.gust(1, 60);
        x.run(1439);
        Check.due(x.target(0, 6), 1);
        Check.due(x.count(17), 0);
        Check.due(x.run(1), 0);
        Check.due(x.target(0, 6), 0);
        Check.due(x.target(0, 11), 1);
        Check.due(x.count(8), NONE);
        Check.due(x.count(17), 1);
        Check.due(x.count(16), 1);
        Check.due(x.axis(1, 3), 9000);
        Check.due(x.axis(1, 4), 20);
        Check.due(x.axis(1, 6), 4500);
        Check.due(x.axis(0, 3), 9040);
        Check.due(x.axis(0, 4), 40);
        Check.due(x.run(1439), 0);
        Check.due(x.target(0, 6), 0);
        Check.due(x.count(17), 1);
    }

    private static void promise16HoldGoesAheadOfDone() {
        DishPointer x = withTarget(824, 5000, 600);
        Check.due(x.ifRun(1440), 1);
        x.gust(1, 60);
        Check.due(x.ifRun(1440), 0);
        Check.due(x.run(1440), 0);
        Check.due(x.target(0, 6), 0);
        Check.due(x.target(0, 11), 1);
        // One that is done a minute before is done.
        x = withTarget(824, 5000, 599);
        x.gust(1, 60);
        Check.due(x.run(1440), 1);
        Check.due(x.target(0, 11), 0);
    }

    private static void promise16HoldDuringSlew() {
        DishPointer x = withTarget(1430, 5000, 100);
        x.set(2, 0);
        x.gust(1, 60);
        x.run(1439);
        Check.due(x.target(0, 8), 1446);
        x.run(30);
        Check.due(x.axis(0, 3), 9040);
        Check.due(x.axis(0, 4), 40);
        Check.due(x.axis(1, 3), 9000);
        Check.due(x.target(0, 6), 0);
    }

    private static void promise16HoldGoesAheadOfMissed() {
        DishPointer x = withTarget(1300, 1440, 100);
        x.gust(1, 60);
        x.run(1310);
        Check.due(x.target(0, 6), 1);
        x.run(129);
        Check.due(x.target(0, 6), 2);
        x = withTarget(1400, 1600, 100);
        x.gust(1, 60);
        x.run(1440);
        Check.due(x.target(0, 6), 0);
        x.run(159);
        Check.due(x.target(0, 6), 0);
        x.run(1);
        Check.due(x.target(0, 6), 3);
        Check.due(x.target(0, 11), 1);
        // Its window ends at the minute at which it is broken off.
        x = withTarget(1324, 1440, 100);
        x.gust(1, 60);
        x.run(1439);
        Check.due(x.target(0, 9), 1440);
        x.run(1);
        Check.due(x.target(0, 6), 3);
        Check.due(x.target(0, 11), 1);
        Check.due(x.target(0, 9), NONE);
    }

    private static void promise16HoldAfterHold() {
        DishPointer x = new DishPointer();
        x.gust(1, 60);
        x.gust(2, 99);
        x.gust(3, 59);
        x.gust(4, 60);
        x.slew(0, 5000);
        x.run(1440);
        Check.due(x.count(17), 1);
        Check.due(x.axis(1, 3), 9000);
        x.run(1440);
        Check.due(x.count(17), 2);
        Check.due(x.axis(1, 6), 4000);
        x.run(1440);
        Check.due(x.count(17), 2);
        x.run(1440);
        Check.due(x.count(17), 3);
        Check.due(x.axis(1, 6), 4000);
        Check.due(x.axis(1, 7), 4000);
    }

    private static void promise16HoldThatDoesNotBegin() {
        DishPointer x = new DishPointer();
        x.slew(0, 5000);
        x.gust(0, 60);
        x.run(0);
        x.run(10);
        Check.due(x.count(3), 0);
        Check.due(x.count(17), 0);
        Check.due(x.axis(1, 3), 5000);
        // At the first minute of a day, but not come to it as a hold.
        x = new DishPointer();
        x.slew(0, 5000);
        x.run(1440);
        x.gust(1, 60);
        x.run(0);
        x.run(1439);
        Check.due(x.count(3), 0);
        Check.due(x.count(17), 0);
        Check.due(x.axis(1, 3), 5000);
        x.gust(2, 60);
        x.run(1);
        Check.due(x.count(17), 1);
        // A hold that has begun does not begin again.
        x.run(0);
        Check.due(x.count(17), 1);
    }

    private static void promise16DayThatBecomesHoldUnderWay() {
        DishPointer x = withTarget(0, 5000, 30);
        x.add(10000, 4500, 0, 5000, 30, 0);
        x.run(0);
        x.set(2, 0);
        x.gust(0, 60);
        Check.due(x.count(3), 0);
        Check.due(x.run(16), 0);
        Check.due(x.axis(0, 4), 40);
        Check.due(x.run(30), 1);
        Check.due(x.target(0, 10), 0);
        Check.due(x.target(0, 11), 0);
        Check.due(x.target(1, 6), 0);
        Check.due(x.axis(1, 3), 4500);
        x.set(3, 100);
        x.run(0);
        Check.due(x.target(1, 6), 1);
    }

    private static void promise16HoldEnds() {
        DishPointer x = withTarget(1400, 5000, 100);
        x.gust(1, 60);
        x.run(1440);
        x.run(1439);
        Check.due(x.count(8), NONE);
        x.run(1);
        Check.due(x.count(8), 0);
        Check.due(x.target(0, 7), 2880);
        Check.due(x.target(0, 8), 2895);
        Check.due(x.count(16), 2);
        Check.due(x.run(115), 1);
    }

    private static void promise16LastDay() {
        DishPointer x = new DishPointer();
        x.set(3, 0);
        x.add(9000, 500, 0, 43200, 1, 0);
        for (int i = 0; i < 21; i++) {
            Check.due(x.run(2000), 0);
        }
        Check.due(x.run(1201), Check.LIMIT);
        Check.due(x.count(0), 42000);
        Check.due(x.count(17), 29);
        Check.due(x.run(1200), 0);
        Check.due(x.count(0), 43200);
        Check.due(x.count(1), 30);
        Check.due(x.count(2), 0);
        Check.due(x.count(3), 0);
        Check.due(x.count(17), 30);
        Check.due(x.target(0, 6), 3);
        Check.due(x.run(1), Check.LIMIT);
        Check.due(x.run(2001), Check.INVALID);
        Check.due(x.ifRun(1), Check.LIMIT);
        Check.due(x.ifRun(2001), Check.INVALID);
        Check.due(x.ifRun(0), 0);
        Check.due(x.gust(29, 1), Check.NOT_POSSIBLE);
        Check.due(x.run(0), 0);
        Check.due(x.count(10), 5);
        x.set(3, 1);
        Check.due(x.count(3), 2);
        x.set(2, 0);
        Check.due(x.count(3), 1);
    }

    private static void promise16Wrong() {
        DishPointer x = withTarget(0, 200, 30);
        Check.due(x.run(-1), Check.INVALID);
        Check.due(x.run(2001), Check.INVALID);
        Check.due(x.run(Integer.MIN_VALUE), Check.INVALID);
        Check.due(x.run(Integer.MAX_VALUE), Check.INVALID);
        Check.due(x.count(0), 0);
        Check.due(x.count(5), 1);
        Check.due(x.count(10), 1);
        Check.due(x.run(2000), 1);
    }

    private static void promise17IfRun() {
        DishPointer x = withTarget(0, 300, 30);
        x.add(10000, 4500, 0, 300, 10, 0);
        Check.due(x.ifRun(0), 0);
        Check.due(x.ifRun(45), 0);
        Check.due(x.ifRun(46), 1);
        Check.due(x.ifRun(57), 1);
        Check.due(x.ifRun(58), 2);
        Check.due(x.ifRun(2000), 2);
        x.run(50);
        // The ones that are done already count, too.
        Check.due(x.ifRun(0), 1);
        Check.due(x.ifRun(7), 1);
        Check.due(x.ifRun(8), 2);
    }

    private static void promise17NothingChanges() {
        DishPointer x = withTarget(0, 300, 30);
        x.gust(0, 30);
        x.gust(1, 60);
        x.type('a');
        int[] before = Check.dump(x, 1);
        x.ifRun(2000);
        int[] after = Check.dump(x, 1);
        for (int i = 0; i < before.length; i++) {
            Check.due(after[i], before[i]);
        }
        Check.due(x.run(46), 1);
        Check.due(x.target(0, 10), 40);
    }

    private static void promise17Wrong() {
        DishPointer x = withTarget(0, 300, 30);
        Check.due(x.ifRun(-1), Check.INVALID);
        Check.due(x.ifRun(2001), Check.INVALID);
        Check.due(x.ifRun(Integer.MIN_VALUE), Check.INVALID);
        Check.due(x.ifRun(Integer.MAX_VALUE), Check.INVALID);
        Check.due(x.count(10), 1);
    }
}
