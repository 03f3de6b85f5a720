/** Promises 19 to 22: type, clearText, fault, enter. */
public final class TextsTest {
    private static final int NONE = Check.NOT_FOUND;
    private static final String GOOD = "a9000e4500f0t500d30;";

    public static void main(String[] args) {
        promise19Type();
        promise19Wrong();
        promise20ClearText();
        promise21NoFault();
        promise21Form();
        promise21Digits();
        promise21Range();
        promise21Room();
        promise21FirstFault();
        promise21Wrong();
        promise22Enter();
        promise22NotPossible();
        promise22Room();
        Check.end();
    }

    private static void promise19Type() {
        DishPointer x = new DishPointer();
        Check.due(x.type(32), 1);
        Check.due(x.type(126), 2);
        for (int length = 3; length <= 100; length++) {
            Check.due(x.type(';'), length);
        }
        Check.due(x.type(';'), Check.LIMIT);
        Check.due(x.type(127), Check.INVALID);
        Check.due(x.count(11), 100);
        Check.due(x.clearText(), 100);
        Check.due(x.type('a'), 1);
        Check.due(x.count(10), 0);
    }

    private static void promise19Wrong() {
        DishPointer x = new DishPointer();
        Check.due(x.type(31), Check.INVALID);
        Check.due(x.type(127), Check.INVALID);
        Check.due(x.type(-1), Check.INVALID);
        Check.due(x.type(65536 + 'a'), Check.INVALID);
        Check.due(x.type(Integer.MIN_VALUE), Check.INVALID);
        Check.due(x.type(Integer.MAX_VALUE), Check.INVALID);
        Check.due(x.count(11), 0);
    }

    private static void promise20ClearText() {
        DishPointer x = new DishPointer();
        Check.due(x.clearText(), 0);
        Check.write(x, GOOD);
        Check.due(x.clearText(), GOOD.length());
        Check.due(x.count(11), 0);
        Check.due(x.fault(0), NONE);
        Check.due(x.clearText(), 0);
        Check.due(x.enter(), 0);
        Check.due(x.count(4), 0);
    }

    private static void promise21NoFault() {
        Check.dueFault("", NONE, NONE);
        Check.dueFault(GOOD, NONE, NONE);
        Check.dueFault(GOOD + GOOD, NONE, NONE);
        Check.dueFault("a0e500f0t1d1;", NONE, NONE);
        Check.dueFault("a0e500f0t1d1p0;", NONE, NONE);
        Check.dueFault("a35999e8500f43199t43200d600p9;", NONE, NONE);
        Check.dueFault("a00000e00500f00000t00001d00001p00009;", NONE, NONE);
        Check.dueFault("a0e500f0t1d1;a0e500f0t1d1;a0e500f0t1d1;a0e500f0t1d1;"
            + "a0e500f0t1d1;a0e500f0t1d1;a0e500f0t1d1p1;", NONE, NONE);
    }

    private static void promise21Form() {
        String[] texts = {"a", ";", " ", "a0", "a0e500f0t1d1", "a0e500f0t1d1p", "a0e500f0t1d1p;", "a0e500f0t1d1p1",
            "a0e500f0t1;", "a0e500f0d1;", "a0e500t1d1;", "a0f0t1d1;", "e500f0t1d1;", "e500a0f0t1d1;",
            "a0e500f0t1d1q1;", "A0e500f0t1d1;", "a0e500f0t1d1P1;", "a0 e500f0t1d1;", " a0e500f0t1d1;",
            "a0e500f0t1d1 ;", "a-1e500f0t1d1;", "a+1e500f0t1d1;", "a0e500f0t1d1p1p1;", "a0e500f0t1d1d1;",
            "a0a0e500f0t1d1;", "a0e500f0t1p1d1;", "a0e500f0t1d1,", "a/e500f0t1d1;", "a:e500f0t1d1;",
            "a0e500f0t1d1p9/;", "~0e500f0t1d1;", "99999;", "aefTd;", "a0e500f0t1d1:"};
        for (String text : texts) {
            Check.dueFault(text, 0, 1);
        }
        Check.dueFault("a0e500f0t1d1;;", 13, 1);
        Check.dueFault("a0e500f0t1d1; ", 13, 1);
        Check.dueFault("a0e500f0t1d1;a", 13, 1);
        Check.dueFault("a0e500f0t1d1; a0e500f0t1d1;", 13, 1);
        Check.dueFault(GOOD + GOOD + "a0e500f0t1d1", 40, 1);
    }

    private static void promise21Digits() {
        Check.dueFault("ae500f0t1d1;", 0, 1);
        Check.dueFault("a0ef0t1d1;", 0, 1);
        Check.dueFault("a0e500ft1d1;", 0, 1);
        Check.dueFault("a0e500f0td1;", 0, 1);
        Check.dueFault("a0e500f0t1d;", 0, 1);
        Check.dueFault("a000000e500f0t1d1;", 0, 1);
        Check.dueFault("a0e000500f0t1d1;", 0, 1);
        Check.dueFault("a0e500f000000t1d1;", 0, 1);
        Check.dueFault("a0e500f0t000001d1;", 0, 1);
        Check.dueFault("a0e500f0t1d000001;", 0, 1);
        Check.dueFault("a0e500f0t1d1p000000;", 0, 1);
        Check.dueFault("a9999999999e500f0t1d1;", 0, 1);
        Check.dueFault("a00000e500f0t1d1;", NONE, NONE);
        Check.dueFault("a99999e500f0t1d1;", 0, 2);
    }

    private static void promise21Range() {
        Check.dueFault("a36000e500f0t1d1;", 0, 2);
        Check.dueFault("a0e499f0t1d1;", 0, 2);
        Check.dueFault("a0e8501f0t1d1;", 0, 2);
        Check.dueFault("a0e500f43200t43201d1;", 0, 2);
        Check.dueFault("a0e500f0t43201d1;", 0, 2);
        Check.dueFault("a0e500f1t1d1;", 0, 2);
        Check.dueFault("a0e500f2t1d1;", 0, 2);
        Check.dueFault("a0e500f0t0d1;", 0, 2);
        Check.dueFault("a0e500f0t1d0;", 0, 2);
        Check.dueFault("a0e500f0t1d601;", 0, 2);
        Check.dueFault("a0e500f0t1d1p10;", 0, 2);
        Check.dueFault("a0e500f0t1d1p99999;", 0, 2);
        Check.dueFault(GOOD + "a0e500f1t1d1;", 20, 2);
        // A number out of its range goes behind the form.
        Check.dueFault("a36000e500f0t1d1", 0, 1);
        Check.dueFault("a36000e500f0t1d1px;", 0, 1);
        // A priority that is not told is 0 again.
        Check.dueFault("a0e500f0t1d1p9;a0e500f0t1d1;", NONE, NONE);
    }

    private static void promise21Room() {
        DishPointer x = new DishPointer();
        for (int i = 0; i < 8; i++) {
            x.add(0, 500, 0, 1, 1, 0);
        }
        Check.dueFault(x, GOOD + GOOD, NONE, NONE);
        Check.dueFault(x, GOOD + GOOD + GOOD, 40, 3);
        Check.dueFault(x, GOOD + GOOD + "a36000e500f0t1d1;", 40, 2);
        Check.dueFault(x, GOOD + GOOD + "a36000e500f0t1d1", 40, 1);
        Check.dueFault(x, GOOD + GOOD + GOOD + "x", 40, 3);
        x.add(0, 500, 0, 1, 1, 0);
        Check.dueFault(x, GOOD + GOOD, 20, 3);
        x.add(0, 500, 0, 1, 1, 0);
        Check.dueFault(x, GOOD + GOOD, 0, 3);
        Check.dueFault(x, "", NONE, NONE);
        x.drop(0);
        Check.write(x, GOOD);
        Check.due(x.fault(0), NONE);
        x.undo();
        Check.due(x.fault(1), 3);
    }

    private static void promise21FirstFault() {
        Check.dueFault("a36000e500f0t1d1;;", 0, 2);
        Check.dueFault(";a36000e500f0t1d1;", 0, 1);
        Check.dueFault(GOOD + "a36000e500f0t1d1;x", 20, 2);
        Check.dueFault(GOOD + "x;a36000e500f0t1d1;", 20, 1);
    }

    private static void promise21Wrong() {
        DishPointer x = new DishPointer();
        Check.due(x.fault(-1), Check.INVALID);
        Check.due(x.fault(2), Check.INVALID);
        Check.due(x.fault(Integer.MIN_VALUE), Check.INVALID);
        Check.due(x.fault(Integer.MAX_VALUE), Check.INVALID);
        x.type(';');
        Check.due(x.fault(2), Check.INVALID);
        Check.due(x.fault(1), 1);
        Check.due(x.count(11), 1);
        Check.due(x.count(10), 0);
    }

    private static void promise22Enter() {
        DishPointer x = new DishPointer();
        x.add(1, 501, 2, 3, 4, 5);
        String text = "a35999e8500f43199t43200d600p9;" + GOOD;
        Check.write(x, text);
        Check.due(x.enter(), 2);
        Check.due(x.count(4), 3);
        Check.due(x.count(10), 2);
        Check.due(x.count(11), text.length());
        int[] first = {35999, 8500, 43199, 43200, 600, 9, 0, NONE, NONE, NONE, NONE, 0, NONE};
        int[] second = {9000, 4500, 0, 500, 30, 0, 0, NONE, NONE, NONE, NONE, 0, NONE};
        for (int what = 0; what < 13; what++) {
            Check.due(x.target(1, what), first[what]);
            Check.due(x.target(2, what), second[what]);
        }
        // The text stays, and can be entered again.
        Check.due(x.enter(), 2);
        Check.due(x.count(4), 5);
        Check.due(x.target(3, 0), 35999);
        Check.due(x.target(4, 0), 9000);
        Check.due(x.undo(), 2);
        Check.due(x.count(4), 3);
        Check.due(x.count(11), text.length());
        x.clearText();
        Check.due(x.enter(), 0);
        Check.due(x.count(4), 3);
        Check.due(x.count(10), 3);
        // In the place of one that was dropped, a target begins anew.
        x = new DishPointer();
        x.gust(1, 60);
        x.add(9000, 4500, 1400, 5000, 100, 1);
        x.run(1440);
        Check.due(x.target(0, 11), 1);
        x.drop(0);
        Check.write(x, GOOD);
        Check.due(x.enter(), 1);
        Check.due(x.target(0, 11), 0);
        Check.due(x.target(0, 6), 0);
    }

    private static void promise22NotPossible() {
        String[] texts = {"x", GOOD + "x", GOOD + "a0e500f1t1d1;", GOOD.substring(0, 19)};
        for (String text : texts) {
            DishPointer x = new DishPointer();
            Check.write(x, text);
            Check.due(x.enter(), Check.NOT_POSSIBLE);
            Check.due(x.count(4), 0);
            Check.due(x.count(10), 0);
            Check.due(x.count(11), text.length());
        }
    }

    private static void promise22Room() {
        DishPointer x = new DishPointer();
        Check.write(x, GOOD + GOOD + GOOD);
        Check.due(x.enter(), 3);
        Check.due(x.enter(), 3);
        Check.due(x.enter(), 3);
        Check.due(x.enter(), Check.NOT_POSSIBLE);
        Check.due(x.count(4), 9);
        Check.due(x.fault(0), 20);
        Check.due(x.fault(1), 3);
        Check.write(x, GOOD);
        Check.due(x.enter(), 1);
        Check.due(x.count(4), 10);
        Check.due(x.enter(), Check.NOT_POSSIBLE);
        Check.write(x, "");
        Check.due(x.enter(), 0);
    }
}
