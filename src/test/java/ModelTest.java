import java.util.ArrayList;
import java.util.List;

/** Long runs of calls, of which every answer is compared with that of the Model. */
public final class ModelTest {
    private static final int OBJECTS = 1000;
    // An object is used for at most 512 calls; the last of them look at everything.
    private static final int MOST_CALLS = 512;
    private static final int CALLS_OF_STEPS = 270;
    private static final int GLANCES = 3;

    private final DishPointer dish = new DishPointer();
    private final Model model = new Model();
    private final List<String> told = new ArrayList<>();
    private long seed;
    private int calls = 0;

    private ModelTest(int number) {
        seed = number;
    }

    public static void main(String[] args) {
        for (int number = 0; number < OBJECTS; number++) {
            ModelTest test = new ModelTest(number);
            if (!test.passes()) {
                System.out.println("object " + number + ", the last calls:");
                int first = Math.max(0, test.told.size() - 40);
                test.told.subList(first, test.told.size()).forEach(System.out::println);
                System.exit(1);
            }
        }
        System.out.println(OBJECTS + " objects, up to " + MOST_CALLS + " calls each, as the model answers");
    }

    private boolean passes() {
        while (calls < CALLS_OF_STEPS) {
            if (!step()) {
                return false;
            }
            for (int i = 0; i < GLANCES; i++) {
                if (!glance()) {
                    return false;
                }
            }
        }
        return looksTheSame() && calls <= MOST_CALLS;
    }

    /** The same numbers on every machine. */
    private int pick(int bound) {
        seed = seed * 6364136223846793005L + 1442695040888963407L;
        return (int) Math.floorMod(seed >>> 33, (long) bound);
    }

    private int pick(int low, int high) {
        return low + pick(high - low + 1);
    }

    private int oneOf(int... values) {
        return values[pick(values.length)];
    }

    private boolean same(String call, int got, int want) {
        calls++;
        told.add(call + " = " + got + (got == want ? "" : ", the model answers " + want));
        return got == want;
    }

    private int azimuth() {
        int[] usual = {0, 35999, 9000, 9040, 8960, 18000, 17980, 18020, 26960, 26961, 27000, 9100};
        return pick(3) == 0 ? oneOf(usual) : pick(4) == 0 ? pick(-2, 36001) : pick(100) * 360;
    }

    private int elevation() {
        return pick(3) == 0 ? oneOf(500, 499, 600, 599, 8500, 8501, 8980, 9000, 9001) : pick(500, 8500);
    }

    private int minutes() {
        int toNextDay = 1440 - model.count(0) % 1440;
        int untilDone = Math.max(0, model.count(9));
        switch (pick(8)) {
            case 0:
                return oneOf(0, 0, 1, -1, 2000, 2001);
            case 1:
                return Math.max(0, toNextDay + pick(-1, 1));
            case 2:
                return Math.max(0, untilDone + pick(-1, 1));
            case 3:
                return pick(2000);
            case 4:
                return pick(300);
            default:
                return pick(25);
        }
    }

    private boolean step() {
        int kind = pick(100);
        if (kind < 24) {
            return stepMinutes(kind);
        }
        if (kind < 44) {
            return stepQueue(kind);
        }
        if (kind < 66) {
            return stepSettings(kind);
        }
        return kind < 90 ? stepWays(kind) : stepText(kind);
    }

    private boolean stepMinutes(int kind) {
        int m = minutes();
        if (kind < 17) {
            return same("run(" + m + ")", dish.run(m), model.run(m));
        }
        if (kind < 20) {
            return same("ifRun(" + m + ")", dish.ifRun(m), model.ifRun(m));
        }
        return same("undo()", dish.undo(), model.undo());
    }

    private boolean stepQueue(int kind) {
        if (kind < 40) {
            int a = azimuth();
            int e = Math.min(elevation(), 8501);
            int f = Math.max(0, model.count(0) + pick(-50, oneOf(5, 50, 1500)));
            int t = f + pick(1, oneOf(60, 300, 3000));
            int d = oneOf(pick(1, 20), pick(1, 100), pick(0, 601));
            int p = oneOf(0, 1, 2, pick(0, 9));
            String call = "add(" + a + ", " + e + ", " + f + ", " + t + ", " + d + ", " + p + ")";
            return same(call, dish.add(a, e, f, t, d, p), model.add(a, e, f, t, d, p));
        }
        int n = pick(-1, model.count(4));
        return same("drop(" + n + ")", dish.drop(n), model.drop(n));
    }

    private boolean stepSettings(int kind) {
        if (kind < 51) {
            int what = pick(-1, 4);
            int value = what == 0 ? oneOf(0, 100, 500, 501, pick(500)) : what == 1
                ? oneOf(0, 9000, 18000, 27000, 27001, pick(27000)) : oneOf(0, 30, 60, 60, 100, 101, pick(100));
            return same("set(" + what + ", " + value + ")", dish.set(what, value), model.set(what, value));
        }
        if (kind < 58) {
            int axis = oneOf(0, 0, 1);
            int what = pick(3);
            int value = what == 0 ? oneOf(0, 20, 40, 300, 301, pick(300)) : what == 1
                ? pick(-1, 3) : oneOf(0, 1, 100, 600, 2000, 2001, pick(2000));
            String call = "setAxis(" + axis + ", " + what + ", " + value + ")";
            return same(call, dish.setAxis(axis, what, value), model.setAxis(axis, what, value));
        }
        int day = model.count(1) + pick(-1, 3);
        int gust = oneOf(0, 29, 30, 45, 59, 60, 70, 99, 100, -1);
        return same("gust(" + day + ", " + gust + ")", dish.gust(day, gust), model.gust(day, gust));
    }

    private boolean stepWays(int kind) {
        if (kind < 72) {
            int a = azimuth();
            int e = elevation();
            return same("slew(" + a + ", " + e + ")", dish.slew(a, e), model.slew(a, e));
        }
        if (kind < 78) {
            int a = oneOf(azimuth(), Math.floorMod(model.axis(0, 5) + pick(-3, 3), 36000));
            return same("placeFor(" + a + ")", dish.placeFor(a), model.placeFor(a));
        }
        int axis = pick(2);
        int place = oneOf(pick(-27001, 27001), model.axis(axis, 5) + pick(-2, 2), pick(490, 9010));
        for (int what = -1; what <= 4; what++) {
            String call = "way(" + axis + ", " + place + ", " + what + ")";
            if (!same(call, dish.way(axis, place, what), model.way(axis, place, what))) {
                return false;
            }
        }
        return true;
    }

    private boolean stepText(int kind) {
        if (kind < 92) {
            return same("clearText()", dish.clearText(), model.clearText());
        }
        if (kind < 94) {
            return same("enter()", dish.enter(), model.enter());
        }
        String[] texts = {"a0e500f0t1d1;", "a" + azimuth() + "e" + elevation() + "f" + pick(2000) + "t" + pick(50000)
            + "d" + pick(1, 601) + (pick(2) == 0 ? ";" : "p" + pick(11) + ";"), "a9000e4500f0t43200d30;"};
        String text = pick(6) == 0 ? String.valueOf((char) pick(31, 127)) : texts[pick(texts.length)];
        for (int i = 0; i < text.length(); i++) {
            int sign = text.charAt(i);
            if (!same("type(" + sign + ")", dish.type(sign), model.type(sign))) {
                return false;
            }
        }
        return true;
    }

    /** One question of any kind. */
    private boolean glance() {
        int n = pick(-1, model.count(4));
        int axis = pick(2);
        int what = pick(-1, 13);
        switch (pick(8)) {
            case 0:
                return same("axis(" + axis + ", " + what + ")", dish.axis(axis, what), model.axis(axis, what));
            case 1:
            case 2:
                return same("target(" + n + ", " + what + ")", dish.target(n, what), model.target(n, what));
            case 3:
                return same("why(" + n + ")", dish.why(n), model.why(n));
            case 4:
                return same("next()", dish.next(), model.next());
            case 5:
                return same("axis(0, 4)", dish.axis(0, 4), model.axis(0, 4));
            default:
                int number = pick(-1, 19);
                return same("count(" + number + ")", dish.count(number), model.count(number));
        }
    }

    private boolean looksTheSame() {
        boolean same = true;
        for (int what = 0; same && what <= 18; what++) {
            same = same("count(" + what + ")", dish.count(what), model.count(what));
        }
        for (int i = 0; same && i < 18; i++) {
            same = same("axis(" + i / 9 + ", " + i % 9 + ")", dish.axis(i / 9, i % 9), model.axis(i / 9, i % 9));
        }
        for (int n = 0; same && n < model.count(4); n++) {
            same = same("why(" + n + ")", dish.why(n), model.why(n));
            for (int what = 0; same && what <= 12; what++) {
                same = same("target(" + n + ", " + what + ")", dish.target(n, what), model.target(n, what));
            }
        }
        return same && same("next()", dish.next(), model.next())
            && same("isWound()", dish.isWound(), model.isWound())
            && same("fault(0)", dish.fault(0), model.fault(0))
            && same("fault(1)", dish.fault(1), model.fault(1))
            && undoneTheSame();
    }

    private boolean undoneTheSame() {
        for (int left = model.count(10); left >= 0; left--) {
            if (!same("undo()", dish.undo(), model.undo())
                    || !same("axis(0, 4)", dish.axis(0, 4), model.axis(0, 4))
                    || !same("run(20)", dish.run(20), model.run(20))
                    || !same("axis(0, 4)", dish.axis(0, 4), model.axis(0, 4))
                    || !same("undo()", dish.undo(), model.undo())) {
                return false;
            }
        }
        return true;
    }
}
