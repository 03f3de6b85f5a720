/** The sentences under "Texts" that name an edge, and promises 19 to 22. */
public final class EdgeTextsTest {
    private static final int NONE = Check.NOT_FOUND;
    private static final String LEAST = "a0e500f0t1d1;";
    private static final String MOST = "a35999e8500f43199t43200d600p9;";

    public static void main(String[] args) {
        atMostHundred();
        initiallyEmpty();
        targetsFollowed();
        fiveParts();
        digits();
        leadingNoughts();
        order();
        priority();
        priorityDigits();
        faultPosition();
        formFault();
        rangeFault();
        emptyWindow();
        roomFault();
        firstReason();
        fullText();
        promise19Ranges();
        promise19Full();
        promise20Length();
        promise21Ranges();
        promise21NoFault();
        promise22Adds();
        promise22Nothing();
        promise22Refused();
        promise22Stays();
        promise22Room();
        Check.end();
    }

    private static DishPointer withTargets(int number) {
        DishPointer x = new DishPointer();
        for (int i = 0; i < number; i++) {
            x.add(0, 500, 0, 1, 1, 0);
        }
        return x;
    }

    private static void atMostHundred() {
        Check.sentence("There is a text of at most 100 characters");
        DishPointer x = new DishPointer();
        for (int length = 1; length <= 100; length++) {
            Check.due(x.type(64), length);
        }
        Check.due(x.count(11), 100);
        Check.due(x.type(64), Check.LIMIT);
        Check.due(x.type(31), Check.INVALID);
        Check.due(x.count(11), 100);
        Check.due(x.clearText(), 100);
        Check.due(x.type(64), 1);
    }

    private static void initiallyEmpty() {
        Check.sentence("initially empty");
        DishPointer x = new DishPointer();
        Check.due(x.count(11), 0);
        Check.due(x.fault(0), NONE);
        Check.due(x.fault(1), NONE);
        Check.due(x.clearText(), 0);
        Check.due(x.enter(), 0);
    }

    private static void targetsFollowed() {
        Check.sentence("targets, each followed by \";\"");
        Check.dueFault(LEAST, NONE, NONE);
        Check.dueFault(LEAST.substring(0, 12), 0, 1);
        Check.dueFault(LEAST + LEAST, NONE, NONE);
        Check.dueFault(LEAST + LEAST.substring(0, 12), 13, 1);
        Check.dueFault(";", 0, 1);
        Check.dueFault(";" + LEAST, 0, 1);
        Check.dueFault(LEAST + ";", 13, 1);
        Check.dueFault(LEAST + ";" + LEAST, 13, 1);
        Check.dueFault(LEAST.replace(';', ','), 0, 1);
        Check.dueFault(LEAST.replace(';', ':'), 0, 1);
        Check.dueFault(LEAST.replace(';', '<'), 0, 1);
        Check.dueFault(LEAST.replace(';', ' ') + LEAST, 0, 1);
        Check.dueFault(LEAST + " ", 13, 1);
        Check.dueFault(" " + LEAST, 0, 1);
        Check.dueFault(LEAST + " " + LEAST, 13, 1);
    }

    private static void fiveParts() {
        Check.sentence("five parts, each a letter and a number");
        String[] texts = {"e500f0t1d1;", "a0f0t1d1;", "a0e500t1d1;", "a0e500f0d1;", "a0e500f0t1;", "a0;", "a;",
            "a0e500f0t1d1d1;", "a0a0e500f0t1d1;", "0e500f0t1d1;", "a0500f0t1d1;", "b0e500f0t1d1;", "a0e500f0t1c1;",
            "A0e500f0t1d1;", "a0E500f0t1d1;", "a0e500F0t1d1;", "a0e500f0T1d1;", "a0e500f0t1D1;",
            "a 0e500f0t1d1;", "a0 e500f0t1d1;", "a0e500f0t1d1 ;", "a-1e500f0t1d1;", "a+1e500f0t1d1;",
            "a0e500f0t1d1.0;", "a/e500f0t1d1;", "a:e500f0t1d1;", "a0e500f0t1d/;", "a0e500f0t1d:;"};
        for (String text : texts) {
            Check.dueFault(text, 0, 1);
        }
    }

    private static void digits() {
        Check.sentence("a number of 1 to 5 digits");
        // No digit at all, in each of the parts.
        Check.dueFault("ae500f0t1d1;", 0, 1);
        Check.dueFault("a0ef0t1d1;", 0, 1);
        Check.dueFault("a0e500ft1d1;", 0, 1);
        Check.dueFault("a0e500f0td1;", 0, 1);
        Check.dueFault("a0e500f0t1d;", 0, 1);
        // Five digits, in each of the parts.
        Check.dueFault("a00000e00500f00000t00001d00001;", NONE, NONE);
        Check.dueFault("a35999e08500f43199t43200d00600;", NONE, NONE);
        // Six digits, in each of the parts, with a number in its range.
        Check.dueFault("a000000e500f0t1d1;", 0, 1);
        Check.dueFault("a0e000500f0t1d1;", 0, 1);
        Check.dueFault("a0e500f000000t1d1;", 0, 1);
        Check.dueFault("a0e500f0t000001d1;", 0, 1);
        Check.dueFault("a0e500f0t1d000001;", 0, 1);
        // Six digits are a fault of form, five of them one of range.
        Check.dueFault("a100000e500f0t1d1;", 0, 1);
        Check.dueFault("a99999e500f0t1d1;", 0, 2);
        Check.dueFault("a0e500f0t1d4294967297;", 0, 1);
        // All ten digits are digits.
        DishPointer x = new DishPointer();
        Check.write(x, "a12345e6789f0t10d98;");
        Check.due(x.enter(), 1);
        Check.dueFrom(0, (dish, what) -> dish.target(0, what), x, 12345, 6789, 0, 10, 98, 0);
    }

    private static void leadingNoughts() {
        Check.sentence("each a letter and a number of 1 to 5 digits");
        DishPointer x = new DishPointer();
        Check.write(x, "a00042e00500f00009t00010d00007p00003;");
        Check.due(x.enter(), 1);
        Check.dueFrom(0, (dish, what) -> dish.target(0, what), x, 42, 500, 9, 10, 7, 3);
    }

    private static void order() {
        Check.sentence("in this order: \"a\" azimuth, \"e\" elevation, \"f\" the begin of the window, \"t\" its end, "
            + "\"d\" the dwell");
        DishPointer x = new DishPointer();
        Check.write(x, "a1000e2000f3000t4000d500;");
        Check.due(x.enter(), 1);
        Check.dueFrom(0, (dish, what) -> dish.target(0, what), x, 1000, 2000, 3000, 4000, 500, 0);
        String[] parts = {"a600", "e600", "f600", "t601", "d600"};
        Check.dueFault(String.join("", parts) + ";", NONE, NONE);
        for (int one = 0; one < 5; one++) {
            for (int other = one + 1; other < 5; other++) {
                String[] turned = parts.clone();
                turned[one] = parts[other];
                turned[other] = parts[one];
                Check.dueFault(String.join("", turned) + ";", 0, 1);
            }
        }
        Check.dueFault("p1a0e500f0t1d1;", 0, 1);
        Check.dueFault("a0e500f0t1p1d1;", 0, 1);
    }

    private static void priority() {
        Check.sentence("and then perhaps \"p\" and the priority (0 without it; \"p0\" is possible)");
        DishPointer x = new DishPointer();
        Check.write(x, "a0e500f0t1d1p9;a0e500f0t1d1;a0e500f0t1d1p0;a0e500f0t1d1p1;");
        Check.due(x.fault(0), NONE);
        Check.due(x.enter(), 4);
        Check.dueFrom(0, (dish, number) -> dish.target(number, 5), x, 9, 0, 0, 1);
        Check.dueFault("a0e500f0t1d1p;", 0, 1);
        Check.dueFault("a0e500f0t1d1p", 0, 1);
        Check.dueFault("a0e500f0t1d1p1", 0, 1);
        Check.dueFault("a0e500f0t1d1P1;", 0, 1);
        Check.dueFault("a0e500f0t1d1q1;", 0, 1);
        Check.dueFault("a0e500f0t1d1o1;", 0, 1);
        Check.dueFault("a0e500f0t1d1p1p1;", 0, 1);
        Check.dueFault("a0e500f0t1d1pp1;", 0, 1);
        Check.dueFault("a0e500f0t1d1p-1;", 0, 1);
        Check.dueFault("a0e500f0t1d1p 1;", 0, 1);
        Check.dueFault("a0e500f0t1d1p/;", 0, 1);
        Check.dueFault("a0e500f0t1d1p:;", 0, 1);
    }

    private static void priorityDigits() {
        Check.sentence("2 if a number is out of its range");
        Check.dueFault("a0e500f0t1d1p9;", NONE, NONE);
        Check.dueFault("a0e500f0t1d1p10;", 0, 2);
        Check.dueFault("a0e500f0t1d1p99;", 0, 2);
        Check.dueFault(LEAST + "a0e500f0t1d1p10;", 13, 2);
    }

    private static void faultPosition() {
        Check.sentence("The fault of the text is the position, from 0, of the first character of the first target "
            + "that is not possible");
        Check.dueFault("x", 0, 1);
        Check.dueFault(LEAST + "x", 13, 1);
        Check.dueFault(MOST + "x", 30, 1);
        Check.dueFault(LEAST + MOST + "x", 43, 1);
        Check.dueFault("a0e499f0t1d1;x", 0, 2);
        Check.dueFault("x;a0e499f0t1d1;", 0, 1);
        Check.dueFault(LEAST + "a0e499f0t1d1;x", 13, 2);
        Check.dueFault(LEAST + "x;a0e499f0t1d1;", 13, 1);
        Check.dueFault(LEAST + LEAST + "a0e500f0t1d0;" + LEAST, 26, 2);
        // Up to the last character that there is room for.
        String six = LEAST + LEAST + LEAST + LEAST + LEAST + LEAST;
        Check.dueFault(six + "a00000e500f0t1d001p0;;", 99, 1);
        Check.dueFault(six + LEAST + "a0e500f0", 91, 1);
    }

    private static void formFault() {
        Check.sentence("its reason is 1 if it is not of this form");
        String text = MOST;
        for (int length = 1; length < text.length(); length++) {
            Check.dueFault(text.substring(0, length), 0, 1);
        }
        Check.dueFault(text, NONE, NONE);
        for (int place = 0; place < text.length(); place++) {
            Check.dueFault(text.substring(0, place) + "~" + text.substring(place + 1), 0, 1);
        }
    }

    private static void rangeFault() {
        Check.sentence("2 if a number is out of its range");
        Check.dueFault("a35999e500f0t1d1;", NONE, NONE);
        Check.dueFault("a36000e500f0t1d1;", 0, 2);
        Check.dueFault("a0e500f0t1d1;", NONE, NONE);
        Check.dueFault("a0e499f0t1d1;", 0, 2);
        Check.dueFault("a0e0f0t1d1;", 0, 2);
        Check.dueFault("a0e8500f0t1d1;", NONE, NONE);
        Check.dueFault("a0e8501f0t1d1;", 0, 2);
        Check.dueFault("a0e500f43199t43200d1;", NONE, NONE);
        Check.dueFault("a0e500f43199t43201d1;", 0, 2);
        Check.dueFault("a0e500f43200t43201d1;", 0, 2);
        Check.dueFault("a0e500f0t43200d1;", NONE, NONE);
        Check.dueFault("a0e500f0t1d0;", 0, 2);
        Check.dueFault("a0e500f0t1d600;", NONE, NONE);
        Check.dueFault("a0e500f0t1d601;", 0, 2);
        Check.dueFault("a0e500f0t1d1p9;", NONE, NONE);
        Check.dueFault("a0e500f0t1d1p10;", 0, 2);
    }

    private static void emptyWindow() {
        Check.sentence("(also if the window is empty)");
        Check.dueFault("a0e500f99t100d1;", NONE, NONE);
        Check.dueFault("a0e500f100t100d1;", 0, 2);
        Check.dueFault("a0e500f101t100d1;", 0, 2);
        Check.dueFault("a0e500f0t0d1;", 0, 2);
        Check.dueFault("a0e500f43200t43200d1;", 0, 2);
        Check.dueFault("a0e500f43200t0d1;", 0, 2);
    }

    private static void roomFault() {
        Check.sentence("3 if there is no room for it");
        Check.dueFault(withTargets(10), LEAST, 0, 3);
        Check.dueFault(withTargets(10), "", NONE, NONE);
        Check.dueFault(withTargets(9), LEAST, NONE, NONE);
        Check.dueFault(withTargets(9), LEAST + LEAST, 13, 3);
        Check.dueFault(withTargets(8), LEAST + LEAST, NONE, NONE);
        Check.dueFault(withTargets(8), LEAST + MOST + LEAST + LEAST, 43, 3);
        // Seven short ones are the most that a text holds.
        String seven = LEAST + LEAST + LEAST + LEAST + LEAST + LEAST + LEAST;
        Check.dueFault(withTargets(3), seven, NONE, NONE);
        Check.dueFault(withTargets(4), seven, 78, 3);
        // Room comes with drop and goes with add.
        DishPointer x = withTargets(10);
        Check.dueFault(x, LEAST, 0, 3);
        x.drop(5);
        Check.due(x.fault(0), NONE);
        x.add(0, 500, 0, 1, 1, 0);
        Check.due(x.fault(1), 3);
    }

    private static void firstReason() {
        Check.sentence("3 if there is no room for it; the first one of these that applies");
        Check.dueFault(withTargets(10), LEAST, 0, 3);
        Check.dueFault(withTargets(10), "a0e499f0t1d1;", 0, 2);
        Check.dueFault(withTargets(10), "a0e500f1t1d1;", 0, 2);
        Check.dueFault(withTargets(10), "a0e499f0t1d1", 0, 1);
        Check.dueFault(withTargets(10), "a0e500f0t1d1", 0, 1);
        Check.dueFault(withTargets(9), LEAST + "a0e500f0t1d1p10;", 13, 2);
        Check.dueFault(withTargets(9), LEAST + "a0e500f0t1d1p10", 13, 1);
        Check.dueFault("a36000e500f0t1d1", 0, 1);
        Check.dueFault("a36000e500f0t1d1x;", 0, 1);
        // The first target counts, whatever reason a later one has.
        Check.dueFault(withTargets(9), LEAST + LEAST + "x", 13, 3);
        Check.dueFault(withTargets(9), LEAST + LEAST + "a36000e500f0t1d1;", 13, 3);
    }

    private static void fullText() {
        Check.sentence("There is a text of at most 100 characters");
        // Six short targets and one of 22 characters.
        String text = LEAST + LEAST + LEAST + LEAST + LEAST + LEAST + "a00009e0500f0t1d001p7;";
        Check.due(text.length(), 100);
        DishPointer x = new DishPointer();
        Check.dueFault(x, text, NONE, NONE);
        Check.due(x.count(11), 100);
        Check.due(x.type('x'), Check.LIMIT);
        Check.due(x.fault(0), NONE);
        Check.due(x.enter(), 7);
        Check.due(x.count(4), 7);
        Check.dueFrom(0, (dish, what) -> dish.target(6, what), x, 9, 500, 0, 1, 1, 7);
        Check.due(x.enter(), Check.NOT_POSSIBLE);
        Check.due(x.fault(0), 39);
        // The last character is cut off: what would follow the hundredth is not there.
        Check.dueFault(new DishPointer(), text.replace("p7;", "p07;"), 78, 1);
    }

    private static void promise19Ranges() {
        Check.sentence("- `character`: 32 to 126\n\nReturns the length of the text");
        Check.dueRange((x, character) -> x.type(character), 32, 126);
        DishPointer x = new DishPointer();
        for (int character = 32; character <= 126; character++) {
            Check.due(x.type(character), character - 31);
        }
        for (int character : new int[] {31, 127, 0, -1, 128, 255, 256 + 'a', 65536 + 'a', -65536 + 'a'}) {
            Check.due(x.type(character), Check.INVALID);
        }
        Check.due(x.count(11), 95);
    }

    private static void promise19Full() {
        Check.sentence("INVALID_ARGUMENT if character is out of range; LIMIT_REACHED if it has 100 characters.");
        DishPointer x = new DishPointer();
        for (int length = 1; length <= 99; length++) {
            x.type('a');
        }
        Check.due(x.type(127), Check.INVALID);
        Check.due(x.type('a'), 100);
        Check.due(x.type('a'), Check.LIMIT);
        Check.due(x.type(127), Check.INVALID);
        Check.due(x.type(31), Check.INVALID);
        Check.due(x.count(11), 100);
        Check.due(x.count(10), 0);
    }

    private static void promise20Length() {
        Check.sentence("`int clearText()`: Empties the text.\n\nReturns the length it had.");
        DishPointer x = new DishPointer();
        Check.due(x.clearText(), 0);
        x.type('x');
        Check.due(x.clearText(), 1);
        Check.due(x.clearText(), 0);
        Check.due(x.count(11), 0);
        Check.due(x.fault(0), NONE);
        Check.write(x, LEAST);
        Check.due(x.clearText(), 13);
        Check.due(x.enter(), 0);
        Check.due(x.count(4), 0);
        // What was there before is not there again behind the new end.
        Check.write(x, LEAST + LEAST);
        Check.write(x, LEAST);
        Check.due(x.enter(), 1);
        Check.write(x, LEAST + LEAST);
        Check.write(x, "a0e500f0t1d1");
        Check.due(x.fault(1), 1);
    }

    private static void promise21Ranges() {
        Check.sentence("- `what`: 0: its position; 1: its reason");
        Check.dueRange((x, what) -> x.fault(what), 0, 1);
        Check.dueRange((x, what) -> x.type('x') + x.fault(what) - 1, 0, 1);
        DishPointer x = new DishPointer();
        Check.dueFrom(-1, (dish, what) -> dish.fault(what), x, Check.INVALID, NONE, NONE, Check.INVALID);
        Check.write(x, LEAST + "x");
        Check.dueFrom(-1, (dish, what) -> dish.fault(what), x, Check.INVALID, 13, 1, Check.INVALID);
        Check.write(x, LEAST);
        Check.dueFrom(-1, (dish, what) -> dish.fault(what), x, Check.INVALID, NONE, NONE, Check.INVALID);
    }

    private static void promise21NoFault() {
        Check.sentence("NOT_FOUND if the text has no fault (also if it is empty).");
        Check.dueFault("", NONE, NONE);
        Check.dueFault(LEAST, NONE, NONE);
        Check.dueFault(MOST, NONE, NONE);
        Check.dueFault(MOST + LEAST + MOST, NONE, NONE);
        Check.dueFault(withTargets(10), "", NONE, NONE);
        DishPointer x = new DishPointer();
        Check.dueFault(x, "x", 0, 1);
        x.clearText();
        Check.due(x.fault(0), NONE);
        Check.due(x.fault(1), NONE);
    }

    private static void promise22Adds() {
        Check.sentence("`int enter()`: Adds all targets of the text, which stays.\n\nReturns how many there are in it");
        DishPointer x = withTargets(1);
        Check.write(x, MOST + LEAST);
        Check.due(x.enter(), 2);
        Check.due(x.count(4), 3);
        Check.dueFrom(0, (dish, what) -> dish.target(1, what), x,
            35999, 8500, 43199, 43200, 600, 9, 0, NONE, NONE, NONE, NONE, 0, NONE);
        Check.dueFrom(0, (dish, what) -> dish.target(2, what), x,
            0, 500, 0, 1, 1, 0, 0, NONE, NONE, NONE, NONE, 0, NONE);
        // They are targets like any others.
        x = new DishPointer();
        Check.write(x, "a9000e4500f0t46d30p1;");
        x.enter();
        Check.due(x.run(46), 1);
    }

    private static void promise22Nothing() {
        Check.sentence("Returns how many there are in it");
        DishPointer x = new DishPointer();
        Check.due(x.enter(), 0);
        Check.due(x.count(4), 0);
        x = withTargets(10);
        Check.due(x.enter(), 0);
        Check.due(x.count(4), 10);
    }

    private static void promise22Refused() {
        Check.sentence("NOT_POSSIBLE if it has a fault.");
        String[] texts = {"x", LEAST + "x", "a36000e500f0t1d1;", LEAST + "a0e500f1t1d1;", LEAST + LEAST + LEAST};
        for (String text : texts) {
            DishPointer x = withTargets(8);
            Check.write(x, text);
            Check.due(x.enter(), Check.NOT_POSSIBLE);
            Check.due(x.count(4), 8);
            Check.due(x.count(11), text.length());
            Check.due(x.count(10), 5);
        }
    }

    private static void promise22Stays() {
        Check.sentence("Adds all targets of the text, which stays.");
        DishPointer x = new DishPointer();
        Check.write(x, LEAST);
        Check.due(x.enter(), 1);
        Check.due(x.count(11), 13);
        Check.due(x.enter(), 1);
        Check.due(x.count(4), 2);
        x.type('x');
        Check.due(x.fault(0), 13);
        Check.due(x.enter(), Check.NOT_POSSIBLE);
        Check.due(x.count(11), 14);
    }

    private static void promise22Room() {
        Check.sentence("NOT_POSSIBLE if it has a fault.");
        // The last room is filled; one more has none.
        DishPointer x = withTargets(8);
        Check.write(x, LEAST + LEAST);
        Check.due(x.enter(), 2);
        Check.due(x.count(4), 10);
        Check.due(x.enter(), Check.NOT_POSSIBLE);
        Check.due(x.add(0, 500, 0, 1, 1, 0), Check.LIMIT);
        x = withTargets(9);
        Check.write(x, LEAST + LEAST);
        Check.due(x.enter(), Check.NOT_POSSIBLE);
        Check.due(x.count(4), 9);
    }
}
