import java.util.function.Consumer;
import java.util.function.ToIntFunction;

/**
 * "A call that returns an error changes nothing.": each refused call is made on one of two dishes
 * that were used alike; behind it both tell the same, now and behind each undo.
 */
public final class RefusedTest {
    private static final String SENTENCE = "A call that returns an error changes nothing.";
    private static final String SHORT = "a0e500f0t1d1;";

    public static void main(String[] args) {
        settings();
        gusts();
        ways();
        slews();
        slewsOnHold();
        slewsWithoutWay();
        adds();
        addsWithoutRoom();
        drops();
        runs();
        runsAtTheEnd();
        undoOfNothing();
        types();
        typesWithoutRoom();
        enters();
        questions();
        emptyQuestions();
        Check.end();
    }

    private static void dueRefused(String call, Consumer<DishPointer> setup, ToIntFunction<DishPointer> refused,
            int error) {
        DishPointer asked = new DishPointer();
        DishPointer twin = new DishPointer();
        setup.accept(asked);
        setup.accept(twin);
        Check.due(call, refused.applyAsInt(asked), error);
        Check.dueSame("behind " + call, asked, twin);
    }

    /** Four targets in all states at the time 50, a full history, a text. */
    private static void busy(DishPointer x) {
        Check.write(x, "a9000e4500f0t200d30p5;a9000e4500f0t20d10p1;a18000e4500f40t4000d300p3;"
            + "a1000e600f100t5000d10;");
        x.gust(2, 45);
        x.enter();
        x.set(0, 120);
        x.setAxis(0, 0, 30);
        x.slew(100, 8000);
        x.setAxis(1, 0, 25);
        x.run(52);
        Check.due(x.count(8), 2);
        Check.due(x.count(7), 1);
        Check.due(x.count(6), 1);
        Check.due(x.count(10), 5);
    }

    private static void dueRefused(String call, ToIntFunction<DishPointer> refused, int error) {
        dueRefused(call, RefusedTest::busy, refused, error);
    }

    private static void dueInvalid(String call, ToIntFunction<DishPointer> refused) {
        dueRefused(call, refused, Check.INVALID);
    }

    private static void settings() {
        Check.sentence(SENTENCE);
        int[] most = {500, 27000, 100, 100};
        for (int what = 0; what < 4; what++) {
            int same = what;
            dueInvalid("set " + what + " below", x -> x.set(same, -1));
            dueInvalid("set " + what + " above", x -> x.set(same, most[same] + 1));
        }
        dueInvalid("set -1", x -> x.set(-1, 50));
        dueInvalid("set 4", x -> x.set(4, 50));
        int[] axisLeast = {0, 0, 1};
        int[] axisMost = {300, 2, 2000};
        for (int what = 0; what < 3; what++) {
            int same = what;
            for (int axis = 0; axis < 2; axis++) {
                int one = axis;
                dueInvalid("setAxis " + what + " below", x -> x.setAxis(one, same, axisLeast[same] - 1));
                dueInvalid("setAxis " + what + " above", x -> x.setAxis(one, same, axisMost[same] + 1));
            }
            dueInvalid("setAxis -1", x -> x.setAxis(-1, same, 1));
            dueInvalid("setAxis 2", x -> x.setAxis(2, same, 1));
        }
        dueInvalid("setAxis of -1", x -> x.setAxis(0, -1, 1));
        dueInvalid("setAxis of 3", x -> x.setAxis(1, 3, 1));
    }

    private static void gusts() {
        Check.sentence(SENTENCE);
        dueInvalid("gust of the day -1", x -> x.gust(-1, 70));
        dueInvalid("gust of the day 30", x -> x.gust(30, 70));
        dueInvalid("gust -1", x -> x.gust(1, -1));
        dueInvalid("gust 100", x -> x.gust(1, 100));
        dueRefused("gust of a day that has begun", x -> x.gust(0, 70), Check.NOT_POSSIBLE);
    }

    private static void ways() {
        Check.sentence(SENTENCE);
        dueInvalid("way of the axis 2", x -> x.way(2, 1000, 0));
        dueInvalid("way to 27001", x -> x.way(0, 27001, 0));
        dueInvalid("way told by 4", x -> x.way(0, 1000, 4));
        dueRefused("way that is not possible", x -> x.way(1, 499, 0), Check.NOT_FOUND);
        dueRefused("way without a turning place", x -> x.way(1, 1000, 3), Check.NOT_FOUND);
        dueInvalid("placeFor -1", x -> x.placeFor(-1));
        dueInvalid("placeFor 36000", x -> x.placeFor(36000));
    }

    private static void slews() {
        Check.sentence(SENTENCE);
        dueInvalid("slew to the azimuth -1", x -> x.slew(-1, 5000));
        dueInvalid("slew to the azimuth 36000", x -> x.slew(36000, 5000));
        dueInvalid("slew to the elevation 499", x -> x.slew(0, 499));
        dueInvalid("slew to the elevation 9001", x -> x.slew(0, 9001));
        dueRefused("slew while a target is under way", x -> x.slew(0, 5000), Check.NOT_POSSIBLE);
    }

    private static void slewsOnHold() {
        Check.sentence(SENTENCE);
        Consumer<DishPointer> onHold = x -> {
            x.slew(9000, 5000);
            x.gust(1, 60);
            x.run(1440);
        };
        dueRefused("slew on a hold", onHold, x -> x.slew(0, 5000), Check.NOT_POSSIBLE);
        dueRefused("slew to the elevation 499 on a hold", onHold, x -> x.slew(0, 499), Check.INVALID);
    }

    private static void slewsWithoutWay() {
        Check.sentence(SENTENCE);
        Consumer<DishPointer> fromBelow = x -> {
            x.slew(9000, 5000);
            x.setAxis(1, 1, 1);
        };
        dueRefused("slew below the turning place", fromBelow, x -> x.slew(0, 599), Check.NOT_POSSIBLE);
        dueRefused("slew above the play", fromBelow, x -> x.slew(0, 8981), Check.NOT_POSSIBLE);
    }

    private static void adds() {
        Check.sentence(SENTENCE);
        dueInvalid("add of the azimuth -1", x -> x.add(-1, 4500, 0, 5000, 30, 1));
        dueInvalid("add of the azimuth 36000", x -> x.add(36000, 4500, 0, 5000, 30, 1));
        dueInvalid("add of the elevation 499", x -> x.add(9000, 499, 0, 5000, 30, 1));
        dueInvalid("add of the elevation 8501", x -> x.add(9000, 8501, 0, 5000, 30, 1));
        dueInvalid("add of a window from -1", x -> x.add(9000, 4500, -1, 5000, 30, 1));
        dueInvalid("add of a window to 43201", x -> x.add(9000, 4500, 0, 43201, 30, 1));
        dueInvalid("add of an empty window", x -> x.add(9000, 4500, 5000, 5000, 30, 1));
        dueInvalid("add of a window that ends first", x -> x.add(9000, 4500, 5001, 5000, 30, 1));
        dueInvalid("add of the dwell 0", x -> x.add(9000, 4500, 0, 5000, 0, 1));
        dueInvalid("add of the dwell 601", x -> x.add(9000, 4500, 0, 5000, 601, 1));
        dueInvalid("add of the priority -1", x -> x.add(9000, 4500, 0, 5000, 30, -1));
        dueInvalid("add of the priority 10", x -> x.add(9000, 4500, 0, 5000, 30, 10));
    }

    private static void addsWithoutRoom() {
        Check.sentence(SENTENCE);
        Consumer<DishPointer> full = x -> {
            for (int number = 0; number < 10; number++) {
                x.add(100 * number, 4500, number, 1000 + number, 1 + number, number);
            }
        };
        dueRefused("add to ten targets", full, x -> x.add(5, 5000, 0, 5000, 30, 1), Check.LIMIT);
        dueRefused("a wrong add to ten targets", full, x -> x.add(5, 5000, 0, 5000, 0, 1), Check.INVALID);
        dueRefused("drop of the eleventh", full, x -> x.drop(10), Check.INVALID);
        dueRefused("target of the eleventh", full, x -> x.target(10, 0), Check.INVALID);
        dueRefused("enter to ten targets", x -> {
            full.accept(x);
            Check.write(x, SHORT);
        }, x -> x.enter(), Check.NOT_POSSIBLE);
        dueRefused("enter of two to nine targets", x -> {
            full.accept(x);
            x.drop(4);
            Check.write(x, SHORT + SHORT);
        }, x -> x.enter(), Check.NOT_POSSIBLE);
    }

    private static void drops() {
        Check.sentence(SENTENCE);
        dueInvalid("drop of -1", x -> x.drop(-1));
        dueInvalid("drop of the one behind the last", x -> x.drop(4));
        dueRefused("drop of the one under way", x -> x.drop(2), Check.NOT_POSSIBLE);
        dueRefused("drop of none", x -> { }, x -> x.drop(0), Check.INVALID);
    }

    private static void runs() {
        Check.sentence(SENTENCE);
        dueInvalid("run of -1", x -> x.run(-1));
        dueInvalid("run of 2001", x -> x.run(2001));
        dueInvalid("ifRun of -1", x -> x.ifRun(-1));
        dueInvalid("ifRun of 2001", x -> x.ifRun(2001));
    }

    private static void runsAtTheEnd() {
        Check.sentence(SENTENCE);
        Consumer<DishPointer> late = x -> {
            x.add(9000, 4500, 0, 43200, 30, 1);
            x.add(9000, 4500, 43198, 43199, 600, 1);
            x.add(9000, 4500, 43198, 43200, 600, 1);
            Check.pass(x, 43199);
        };
        dueRefused("run behind the end", late, x -> x.run(2), Check.LIMIT);
        dueRefused("run of 2000 behind the end", late, x -> x.run(2000), Check.LIMIT);
        dueRefused("ifRun behind the end", late, x -> x.ifRun(2), Check.LIMIT);
        dueRefused("run of 2001 at the end", late, x -> x.run(2001), Check.INVALID);
        dueRefused("gust of the last day", late, x -> x.gust(29, 50), Check.NOT_POSSIBLE);
        Consumer<DishPointer> last = x -> {
            late.accept(x);
            x.run(1);
        };
        dueRefused("run at the end", last, x -> x.run(1), Check.LIMIT);
        dueRefused("ifRun at the end", last, x -> x.ifRun(1), Check.LIMIT);
        dueRefused("gust of the day 30", last, x -> x.gust(30, 50), Check.INVALID);
    }

    private static void undoOfNothing() {
        Check.sentence(SENTENCE);
        dueRefused("undo of nothing", x -> x.type('x'), x -> x.undo(), Check.NOT_POSSIBLE);
        dueRefused("undo behind the last one", x -> {
            x.set(0, 1);
            x.run(5);
            x.undo();
            x.undo();
        }, x -> x.undo(), Check.NOT_POSSIBLE);
    }

    private static void types() {
        Check.sentence(SENTENCE);
        dueInvalid("type of 31", x -> x.type(31));
        dueInvalid("type of 127", x -> x.type(127));
        dueInvalid("type of -1", x -> x.type(-1));
        dueInvalid("type of 65536 + 97", x -> x.type(65536 + 97));
    }

    private static void typesWithoutRoom() {
        Check.sentence(SENTENCE);
        String text = SHORT + SHORT + SHORT + SHORT + SHORT + SHORT + "a00009e0500f0t1d001p7;";
        for (int sign : new int[] {'x', ';', 127}) {
            DishPointer x = new DishPointer();
            Check.write(x, text);
            Check.due(x.type(sign), sign == 127 ? Check.INVALID : Check.LIMIT);
            Check.due(x.count(11), 100);
            Check.due(x.fault(0), Check.NOT_FOUND);
            Check.due(x.enter(), 7);
            Check.due(x.clearText(), 100);
        }
    }

    private static void enters() {
        Check.sentence(SENTENCE);
        String[] texts = {"x", SHORT + "x", SHORT + "a0e499f0t1d1;", SHORT + "a0e500f1t1d1;", SHORT + "a0e500f0t1d1"};
        for (String text : texts) {
            dueRefused("enter of " + text, x -> {
                busy(x);
                Check.write(x, text);
            }, x -> x.enter(), Check.NOT_POSSIBLE);
        }
    }

    private static void questions() {
        Check.sentence(SENTENCE);
        dueInvalid("count of -1", x -> x.count(-1));
        dueInvalid("count of 19", x -> x.count(19));
        dueInvalid("axis of -1", x -> x.axis(-1, 0));
        dueInvalid("axis told by 9", x -> x.axis(0, 9));
        dueInvalid("target told by 13", x -> x.target(0, 13));
        dueInvalid("target of 4", x -> x.target(4, 0));
        dueRefused("error of one that is not done", x -> x.target(2, 10), Check.NOT_FOUND);
        dueRefused("place of one that waits", x -> x.target(3, 12), Check.NOT_FOUND);
        dueInvalid("why of 4", x -> x.why(4));
        dueInvalid("fault told by 2", x -> x.fault(2));
        dueRefused("next while one is under way", x -> x.next(), Check.NOT_FOUND);
    }

    private static void emptyQuestions() {
        Check.sentence(SENTENCE);
        dueRefused("the target under way", x -> { }, x -> x.count(8), Check.NOT_FOUND);
        dueRefused("the minutes until it is done", x -> { }, x -> x.count(9), Check.NOT_FOUND);
        dueRefused("fault of an empty text", x -> { }, x -> x.fault(0), Check.NOT_FOUND);
        dueRefused("next of none", x -> { }, x -> x.next(), Check.NOT_FOUND);
        dueRefused("why of none", x -> { }, x -> x.why(0), Check.INVALID);
        dueRefused("target of none", x -> { }, x -> x.target(0, 0), Check.INVALID);
    }
}
