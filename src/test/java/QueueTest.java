/** Promises 11 to 15 and 18: add, drop, target, why, next, undo. */
public final class QueueTest {
    private static final int NONE = Check.NOT_FOUND;

    public static void main(String[] args) {
        promise11Add();
        promise11Edges();
        promise11Wrong();
        promise11Limit();
        promise12Drop();
        promise12DropUnderWay();
        promise12DropMovesAll();
        promise13Target();
        promise13TargetStates();
        promise13Wrong();
        promise14Why();
        promise14Order();
        promise14EndOfWindow();
        promise14Wrong();
        promise15Next();
        promise15Order();
        promise15AsTheyAre();
        promise18Undo();
        promise18EachChangeIsRecorded();
        promise18WhatIsNoChange();
        promise18KeepsTheText();
        promise18RestoresTheQueue();
        promise18RestoresEverything();
        Check.end();
    }

    private static void promise11Add() {
        DishPointer x = new DishPointer();
        Check.due(x.add(9000, 4500, 10, 200, 30, 1), 0);
        Check.due(x.add(9001, 4501, 11, 201, 31, 2), 1);
        int[] first = {9000, 4500, 10, 200, 30, 1, 0, NONE, NONE, NONE, NONE, 0, NONE};
        int[] second = {9001, 4501, 11, 201, 31, 2, 0, NONE, NONE, NONE, NONE, 0, NONE};
        for (int what = 0; what < 13; what++) {
            Check.due(x.target(0, what), first[what]);
            Check.due(x.target(1, what), second[what]);
        }
        Check.due(x.count(4), 2);
        Check.due(x.count(5), 2);
        Check.due(x.count(10), 2);
        // A window that is over can be added; it is missed only when minutes go by.
        x.run(500);
        Check.due(x.add(9000, 4500, 10, 200, 30, 1), 2);
        Check.due(x.target(2, 6), 0);
        x.run(0);
        Check.due(x.target(2, 6), 3);
    }

    private static void promise11Edges() {
        DishPointer x = new DishPointer();
        Check.due(x.add(0, 500, 0, 1, 1, 0), 0);
        Check.due(x.add(35999, 8500, 43199, 43200, 600, 9), 1);
        Check.due(x.add(0, 500, 0, 43200, 1, 0), 2);
        Check.due(x.target(1, 0), 35999);
        Check.due(x.target(1, 3), 43200);
    }

    private static void promise11Wrong() {
        DishPointer x = new DishPointer();
        Check.due(x.add(-1, 500, 0, 1, 1, 0), Check.INVALID);
        Check.due(x.add(36000, 500, 0, 1, 1, 0), Check.INVALID);
        Check.due(x.add(0, 499, 0, 1, 1, 0), Check.INVALID);
        Check.due(x.add(0, 8501, 0, 1, 1, 0), Check.INVALID);
        Check.due(x.add(0, 500, -1, 1, 1, 0), Check.INVALID);
        Check.due(x.add(0, 500, 43200, 43201, 1, 0), Check.INVALID);
        Check.due(x.add(0, 500, 0, 43201, 1, 0), Check.INVALID);
        Check.due(x.add(0, 500, 5, 5, 1, 0), Check.INVALID);
        Check.due(x.add(0, 500, 6, 5, 1, 0), Check.INVALID);
        Check.due(x.add(0, 500, 0, 1, 0, 0), Check.INVALID);
        Check.due(x.add(0, 500, 0, 1, 601, 0), Check.INVALID);
        Check.due(x.add(0, 500, 0, 1, 1, -1), Check.INVALID);
        Check.due(x.add(0, 500, 0, 1, 1, 10), Check.INVALID);
        Check.due(x.add(Integer.MIN_VALUE, Integer.MIN_VALUE, Integer.MIN_VALUE, Integer.MAX_VALUE,
            Integer.MAX_VALUE, Integer.MAX_VALUE), Check.INVALID);
        Check.due(x.count(4), 0);
        Check.due(x.count(10), 0);
    }

    private static void promise11Limit() {
        DishPointer x = new DishPointer();
        for (int number = 0; number < 10; number++) {
            Check.due(x.add(100 * number, 500, 0, 1, 1, 0), number);
        }
        Check.due(x.add(0, 500, 0, 1, 1, 0), Check.LIMIT);
        Check.due(x.add(0, 500, 1, 1, 1, 0), Check.INVALID);
        Check.due(x.count(4), 10);
        x.drop(3);
        Check.due(x.add(7, 500, 0, 1, 1, 0), 9);
        Check.due(x.target(9, 0), 7);
        Check.due(x.target(8, 0), 900);
        // In the place of one that was broken off, a target begins anew.
        x = new DishPointer();
        x.gust(1, 60);
        for (int number = 0; number < 9; number++) {
            x.add(0, 500, 40000, 40001, 1, 0);
        }
        x.add(9000, 4500, 1400, 5000, 100, 0);
        x.run(1440);
        Check.due(x.target(9, 11), 1);
        x.drop(9);
        Check.due(x.add(9000, 4500, 1400, 5000, 100, 0), 9);
        Check.due(x.target(9, 11), 0);
    }

    private static void promise12Drop() {
        DishPointer x = new DishPointer();
        for (int number = 0; number < 10; number++) {
            x.add(100 * number, 500 + number, number, 50 + number, 1 + number, number);
        }
        Check.due(x.drop(10), Check.INVALID);
        Check.due(x.drop(-1), Check.INVALID);
        Check.due(x.drop(Integer.MIN_VALUE), Check.INVALID);
        Check.due(x.drop(Integer.MAX_VALUE), Check.INVALID);
        Check.due(x.drop(9), 9);
        Check.due(x.target(9, 0), Check.INVALID);
        Check.due(x.drop(9), Check.INVALID);
        Check.due(x.drop(0), 8);
        Check.due(x.drop(4), 7);
        int[] left = {1, 2, 3, 4, 6, 7, 8};
        for (int number = 0; number < left.length; number++) {
            Check.due(x.target(number, 0), 100 * left[number]);
            Check.due(x.target(number, 1), 500 + left[number]);
            Check.due(x.target(number, 2), left[number]);
            Check.due(x.target(number, 3), 50 + left[number]);
            Check.due(x.target(number, 4), 1 + left[number]);
            Check.due(x.target(number, 5), left[number]);
        }
        for (int remain = 6; remain >= 0; remain--) {
            Check.due(x.drop(0), remain);
        }
        Check.due(x.drop(0), Check.INVALID);
        Check.due(x.count(4), 0);
    }

    private static void promise12DropUnderWay() {
        DishPointer x = new DishPointer();
        x.add(100, 5000, 100, 200, 30, 1);
        x.add(9000, 4500, 0, 200, 30, 1);
        x.run(0);
        int states = x.count(10);
        Check.due(x.drop(1), Check.NOT_POSSIBLE);
        Check.due(x.count(10), states);
        Check.due(x.drop(2), Check.INVALID);
        // The one under way goes on with its new number.
        Check.due(x.drop(0), 1);
        Check.due(x.count(8), 0);
        Check.due(x.drop(0), Check.NOT_POSSIBLE);
        Check.due(x.target(0, 9), 46);
        Check.due(x.run(46), 1);
        Check.due(x.target(0, 6), 2);
        Check.due(x.drop(0), 0);
        x.add(100, 5000, 0, 1, 30, 1);
        x.run(10);
        Check.due(x.target(0, 6), 3);
        Check.due(x.drop(0), 0);
    }

    private static void promise12DropMovesAll() {
        DishPointer x = new DishPointer();
        x.add(9000, 4500, 0, 200, 30, 5);
        x.add(18000, 4500, 0, 300, 30, 4);
        x.add(9000, 4500, 0, 400, 30, 3);
        x.run(20);
        x.set(2, 0);
        x.run(100);
        int[] second = {18000, 4500, 0, 300, 30, 4, 2, 46, 61, 91, 40, 0, 18000};
        int[] third = {9000, 4500, 0, 400, 30, 3, 1, 91, 107, 137, NONE, 0, 9000};
        Check.due(x.target(0, 10), 0);
        Check.due(x.drop(0), 2);
        for (int what = 0; what < 13; what++) {
            Check.due(x.target(0, what), second[what]);
            Check.due(x.target(1, what), third[what]);
        }
        x.undo();
        int[] first = {9000, 4500, 0, 200, 30, 5, 2, 0, 16, 46, 0, 0, 9000};
        for (int what = 0; what < 13; what++) {
            Check.due(x.target(0, what), first[what]);
            Check.due(x.target(1, what), second[what]);
            Check.due(x.target(2, what), third[what]);
        }
    }

    private static void promise13Target() {
        DishPointer x = new DishPointer();
        x.run(5);
        x.add(27500, 8500, 0, 100, 60, 9);
        x.run(0);
        int[] underWay = {27500, 8500, 0, 100, 60, 9, 1, 5, 20, 80, NONE, 0, -8500};
        for (int what = 0; what < 13; what++) {
            Check.due(x.target(0, what), underWay[what]);
        }
        x.run(75);
        int[] done = {27500, 8500, 0, 100, 60, 9, 2, 5, 20, 80, 0, 0, -8500};
        for (int what = 0; what < 13; what++) {
            Check.due(x.target(0, what), done[what]);
        }
    }

    private static void promise13TargetStates() {
        DishPointer x = new DishPointer();
        x.gust(1, 60);
        x.add(9000, 4500, 1430, 5000, 100, 3);
        x.add(9000, 4500, 0, 20, 100, 3);
        x.run(1435);
        int[] missed = {9000, 4500, 0, 20, 100, 3, 3, NONE, NONE, NONE, NONE, 0, NONE};
        int[] underWay = {9000, 4500, 1430, 5000, 100, 3, 1, 1430, 1446, 1546, NONE, 0, 9000};
        for (int what = 0; what < 13; what++) {
            Check.due(x.target(0, what), underWay[what]);
            Check.due(x.target(1, what), missed[what]);
        }
        x.run(5);
        int[] broken = {9000, 4500, 1430, 5000, 100, 3, 0, NONE, NONE, NONE, NONE, 1, NONE};
        for (int what = 0; what < 13; what++) {
            Check.due(x.target(0, what), broken[what]);
        }
        x.run(1440);
        // From 9000 with the slack 20 down to 4500.
        int[] again = {9000, 4500, 1430, 5000, 100, 3, 1, 2880, 2895, 2995, NONE, 1, 9000};
        for (int what = 0; what < 13; what++) {
            Check.due(x.target(0, what), again[what]);
        }
        Check.due(x.run(115), 1);
        Check.due(x.target(0, 10), 0);
        Check.due(x.target(0, 11), 1);
    }

    private static void promise13Wrong() {
        DishPointer x = new DishPointer();
        Check.due(x.target(0, 0), Check.INVALID);
        x.add(9000, 4500, 0, 200, 30, 1);
        Check.due(x.target(-1, 0), Check.INVALID);
        Check.due(x.target(1, 0), Check.INVALID);
        Check.due(x.target(10, 0), Check.INVALID);
        Check.due(x.target(0, -1), Check.INVALID);
        Check.due(x.target(0, 13), Check.INVALID);
        Check.due(x.target(Integer.MAX_VALUE, 0), Check.INVALID);
        Check.due(x.target(Integer.MIN_VALUE, 0), Check.INVALID);
        Check.due(x.target(0, Integer.MAX_VALUE), Check.INVALID);
        Check.due(x.target(0, Integer.MIN_VALUE), Check.INVALID);
    }

    private static void promise14Why() {
        DishPointer x = new DishPointer();
        x.add(9000, 4500, 0, 200, 30, 5);
        x.add(9000, 4500, 0, 300, 30, 1);
        x.add(9000, 4500, 50, 300, 30, 1);
        Check.due(x.why(0), 0);
        Check.due(x.why(1), 0);
        Check.due(x.why(2), 4);
        x.run(0);
        Check.due(x.why(0), 1);
        Check.due(x.why(1), 2);
        Check.due(x.why(2), 2);
        x.gust(0, 70);
        Check.due(x.why(1), 2);
        x.undo();
        x.run(45);
        Check.due(x.why(1), 2);
        x.set(2, 0);
        x.set(3, 0);
        x.run(1);
        Check.due(x.why(0), 1);
        Check.due(x.why(1), 3);
        Check.due(x.why(2), 3);
        x.set(3, 60);
        Check.due(x.why(1), 0);
        Check.due(x.why(2), 4);
        x.add(9000, 4500, 0, 40, 30, 1);
        Check.due(x.why(3), 7);
        x.run(0);
        Check.due(x.why(3), 1);
    }

    private static void promise14Order() {
        DishPointer x = new DishPointer();
        x.setAxis(1, 1, 1);
        x.add(9000, 500, 10, 11, 30, 5);
        x.add(9000, 599, 0, 11, 30, 5);
        x.add(9000, 600, 0, 11, 30, 5);
        x.add(9000, 600, 0, 100, 30, 5);
        Check.due(x.why(0), 4);
        Check.due(x.why(1), 5);
        Check.due(x.why(2), 7);
        Check.due(x.why(3), 0);
        x.gust(0, 60);
        for (int number = 0; number < 4; number++) {
            Check.due(x.why(number), 3);
        }
        x.gust(0, 59);
        Check.due(x.why(3), 0);
        Check.due(x.next(), 3);
        x.drop(3);
        x.run(10);
        Check.due(x.why(0), 5);
        Check.due(x.why(1), 5);
    }

    private static void promise14EndOfWindow() {
        DishPointer x = new DishPointer();
        x.add(9000, 4500, 0, 46, 30, 5);
        x.add(9000, 4500, 0, 45, 30, 5);
        // The elevation takes longer than the azimuth.
        x.add(0, 3000, 0, 50, 30, 5);
        x.add(0, 3000, 0, 49, 30, 5);
        Check.due(x.why(0), 0);
        Check.due(x.why(1), 7);
        Check.due(x.why(2), 0);
        Check.due(x.why(3), 7);
        x.setAxis(0, 2, 565);
        Check.due(x.why(0), 0);
        x.setAxis(0, 2, 564);
        Check.due(x.why(0), 7);
        Check.due(x.why(2), 0);
        x.drop(2);
        x.run(1);
        Check.due(x.why(0), 7);
        Check.due(x.target(0, 6), 0);
    }

    private static void promise14Wrong() {
        DishPointer x = new DishPointer();
        Check.due(x.why(0), Check.INVALID);
        x.add(9000, 4500, 0, 46, 30, 5);
        Check.due(x.why(-1), Check.INVALID);
        Check.due(x.why(1), Check.INVALID);
        Check.due(x.why(10), Check.INVALID);
        Check.due(x.why(Integer.MIN_VALUE), Check.INVALID);
        Check.due(x.why(Integer.MAX_VALUE), Check.INVALID);
        Check.due(x.count(10), 1);
    }

    private static void promise15Next() {
        DishPointer x = new DishPointer();
        Check.due(x.next(), NONE);
        x.add(9000, 4500, 1, 200, 30, 1);
        Check.due(x.next(), NONE);
        x.add(9000, 4500, 0, 200, 30, 1);
        Check.due(x.next(), 1);
        Check.due(x.count(10), 2);
        Check.due(x.target(1, 6), 0);
        x.run(0);
        Check.due(x.next(), NONE);
        Check.due(x.count(8), 1);
        x.run(46);
        Check.due(x.next(), NONE);
        Check.due(x.count(8), 0);
    }

    private static void promise15Order() {
        DishPointer x = new DishPointer();
        x.add(9000, 4500, 0, 300, 30, 1);
        Check.due(x.next(), 0);
        x.add(9000, 4500, 0, 300, 30, 1);
        Check.due(x.next(), 0);
        x.add(9000, 4500, 0, 299, 30, 1);
        Check.due(x.next(), 2);
        x.add(9000, 4500, 0, 40000, 30, 2);
        Check.due(x.next(), 3);
        x.add(9000, 4500, 5, 200, 30, 9);
        Check.due(x.next(), 3);
        x.add(9000, 4500, 0, 40000, 30, 2);
        Check.due(x.next(), 3);
        x.add(9000, 4500, 0, 39999, 30, 2);
        Check.due(x.next(), 6);
        int[] order = {6, 4, 3, 5, 2, 0, 1};
        x.run(0);
        for (int number : order) {
            Check.due(x.count(8), number);
            x.run(x.count(9));
            Check.due(x.target(number, 6), 2);
        }
        Check.due(x.count(8), NONE);
    }

    /** Neither a done target nor a missed one is noticed before minutes go by. */
    private static void promise15AsTheyAre() {
        DishPointer x = new DishPointer();
        x.gust(0, 60);
        x.add(9000, 4500, 0, 200, 30, 1);
        Check.due(x.next(), NONE);
        x.gust(0, 0);
        Check.due(x.next(), 0);
        x.run(100);
        x.add(9000, 4500, 0, 50, 30, 9);
        Check.due(x.next(), NONE);
        Check.due(x.target(1, 6), 0);
    }

    private static void promise18Undo() {
        DishPointer x = new DishPointer();
        Check.due(x.undo(), Check.NOT_POSSIBLE);
        for (int value = 1; value <= 5; value++) {
            x.set(0, value);
            Check.due(x.count(10), value);
        }
        x.set(0, 6);
        Check.due(x.count(10), 5);
        for (int left = 4; left >= 0; left--) {
            Check.due(x.undo(), left);
            Check.due(x.count(12), left + 1);
            Check.due(x.count(10), left);
        }
        Check.due(x.undo(), Check.NOT_POSSIBLE);
        Check.due(x.count(12), 1);
        x.set(0, 50);
        x.set(0, 60);
        Check.due(x.undo(), 1);
        Check.due(x.count(12), 50);
        x.set(0, 70);
        Check.due(x.undo(), 1);
        Check.due(x.undo(), 0);
        Check.due(x.count(12), 1);
    }

    private static void promise18EachChangeIsRecorded() {
        DishPointer x = new DishPointer();
        x.set(1, 9000);
        Check.due(x.count(10), 1);
        x.setAxis(1, 2, 50);
        Check.due(x.count(10), 2);
        x.gust(0, 20);
        Check.due(x.count(10), 3);
        x.slew(9000, 4500);
        Check.due(x.count(10), 4);
        Check.due(x.undo(), 3);
        int[] azimuth = {40, 0, 600, 0, 0, 0, 0, 0, 0};
        int[] elevation = {20, 0, 50, 9000, 0, 9000, 0, 0, 9000};
        for (int what = 0; what < azimuth.length; what++) {
            Check.due(x.axis(0, what), azimuth[what]);
            Check.due(x.axis(1, what), elevation[what]);
        }
        Check.due(x.count(16), 0);
        Check.due(x.undo(), 2);
        Check.due(x.count(2), 0);
        Check.due(x.undo(), 1);
        Check.due(x.axis(1, 2), 300);
        Check.due(x.undo(), 0);
        Check.due(x.count(13), 18000);

        x.add(9000, 4500, 0, 46, 30, 5);
        Check.due(x.count(10), 1);
        x.run(0);
        Check.due(x.count(10), 2);
        x.drop(0);
        Check.due(x.count(10), 2);
        x.run(100);
        x.drop(0);
        Check.due(x.count(10), 4);
        Check.write(x, "a0e500f0t1d1;");
        x.enter();
        Check.due(x.count(10), 5);
        // Even what leaves everything as it was is a change.
        x = new DishPointer();
        x.set(0, 100);
        Check.due(x.enter(), 0);
        x.run(0);
        x.slew(0, 9000);
        Check.due(x.count(10), 4);
    }

    private static void promise18WhatIsNoChange() {
        DishPointer x = new DishPointer();
        x.add(9000, 4500, 0, 46, 30, 5);
        x.count(0);
        x.axis(0, 0);
        x.way(0, 0, 0);
        x.placeFor(0);
        x.isWound();
        x.target(0, 0);
        x.why(0);
        x.next();
        x.ifRun(2000);
        x.type('a');
        x.fault(0);
        Check.due(x.enter(), Check.NOT_POSSIBLE);
        x.clearText();
        x.drop(1);
        x.run(2001);
        x.slew(0, 0);
        x.gust(30, 0);
        Check.due(x.count(10), 1);
    }

    private static void promise18KeepsTheText() {
        DishPointer x = new DishPointer();
        x.type('a');
        x.set(0, 5);
        x.type('1');
        Check.due(x.undo(), 0);
        Check.due(x.count(11), 2);
        x.set(0, 5);
        x.clearText();
        x.undo();
        Check.due(x.count(11), 0);
    }

    private static void promise18RestoresTheQueue() {
        DishPointer x = new DishPointer();
        x.gust(1, 99);
        x.add(9000, 4500, 0, 5000, 30, 5);
        x.add(18000, 4500, 1430, 5000, 30, 5);
        x.run(1435);
        Check.due(x.target(1, 6), 1);
        x.run(10);
        Check.due(x.target(1, 11), 1);
        Check.due(x.count(17), 1);
        Check.due(x.undo(), 4);
        Check.due(x.count(0), 1435);
        Check.due(x.count(17), 0);
        Check.due(x.target(1, 6), 1);
        Check.due(x.target(1, 11), 0);
        Check.due(x.target(1, 12), 18000);
        Check.due(x.axis(1, 3), 4500);
        Check.due(x.undo(), 3);
        Check.due(x.count(0), 0);
        Check.due(x.target(0, 6), 0);
        Check.due(x.target(0, 9), NONE);
        Check.due(x.undo(), 2);
        Check.due(x.target(1, 6), Check.INVALID);
        // A slew is looked at once; what was looked at is restored, too.
        x = new DishPointer();
        x.add(9000, 4500, 0, 5000, 30, 5);
        x.run(15);
        x.set(2, 0);
        x.run(1);
        Check.due(x.axis(0, 4), 0);
        x.undo();
        x.undo();
        Check.due(x.axis(0, 4), 40);
        x.run(1);
        x.set(2, 0);
        x.run(0);
        Check.due(x.axis(0, 4), 40);
        x.undo();
        x.undo();
        x.undo();
        x.set(2, 0);
        x.run(1);
        Check.due(x.axis(0, 4), 0);
    }

    private static DishPointer withTwoTargets() {
        DishPointer x = new DishPointer();
        x.gust(0, 30);
        x.slew(27000, 5000);
        x.add(18000, 4500, 0, 5000, 10, 5);
        x.add(9000, 4500, 0, 5000, 10, 4);
        x.run(60);
        Check.due(x.target(1, 6), 1);
        return x;
    }

    private static void promise18RestoresEverything() {
        DishPointer x = withTwoTargets();
        int[] before = Check.dump(x, 2);
        x.drop(0);
        x.undo();
        dueDump(x, before);
        for (int kind = 0; kind < 5; kind++) {
            x = withTwoTargets();
            changeOne(x, kind);
            x.undo();
            dueDump(x, before);
        }
        x = withTwoTargets();
        for (int change = 0; change < 5; change++) {
            changeOne(x, change);
        }
        while (x.count(10) > 0) {
            x.undo();
        }
        dueDump(x, before);
    }

    /** One change of each kind. */
    private static void changeOne(DishPointer x, int kind) {
        switch (kind) {
            case 0:
                x.setAxis(0, 0, 7);
                break;
            case 1:
                x.setAxis(1, 1, 2);
                break;
            case 2:
                x.setAxis(0, 2, 9);
                break;
            case 3:
                x.gust(1, 77);
                break;
            default:
                x.run(2000);
                break;
        }
    }

    /** The dump was made with five states in the history, of which each change and undo takes the oldest. */
    private static void dueDump(DishPointer x, int[] before) {
        int[] after = Check.dump(x, 2);
        for (int i = 0; i < before.length; i++) {
            if (i != 10) {
                Check.due("number " + i + " behind undo", after[i], before[i]);
            }
        }
    }
}
