import java.io.IOException;
import java.nio.file.Files;
import java.nio.file.Path;

/** Compares answers with those that are due, and tells the lines at which they differ. */
final class Check {
    static final int INVALID = DishPointer.INVALID_ARGUMENT;
    static final int NOT_POSSIBLE = DishPointer.NOT_POSSIBLE;
    static final int LIMIT = DishPointer.LIMIT_REACHED;
    static final int NOT_FOUND = DishPointer.NOT_FOUND;

    static final int LAST_TIME = 43200;

    private static final Path DOCUMENT = Path.of("../shared/DOC.md");

    private static int compared = 0;
    private static int wrong = 0;
    private static String sentence = "";
    private static String document = null;

    private Check() {
    }

    /** A call on a dish, of which one argument is looked at. */
    interface Call {
        int answer(DishPointer dish, int argument);
    }

    /** The sentence of the document by which the next answers are due, word by word. */
    static void sentence(String quote) {
        sentence = quote;
        compared++;
        if (!document().contains(quote)) {
            tell("the document does not say this");
        }
    }

    private static String document() {
        if (document == null) {
            try {
                document = Files.readString(DOCUMENT);
            } catch (IOException e) {
                throw new IllegalStateException("no document at " + DOCUMENT.toAbsolutePath(), e);
            }
        }
        return document;
    }

    static void due(long got, long want) {
        compared++;
        if (got != want) {
            tell("answered " + got + ", due is " + want);
        }
    }

    static void due(String what, Object got, Object want) {
        compared++;
        if (!want.equals(got)) {
            tell(what + " is " + got + ", due is " + want);
        }
    }

    /** The answers of one call for the arguments from a first one on. */
    static void dueFrom(int first, Call call, DishPointer dish, int... wanted) {
        for (int i = 0; i < wanted.length; i++) {
            due("the answer for " + (first + i), call.answer(dish, first + i), wanted[i]);
        }
    }

    /** An argument is taken at both ends of its range, and refused beside them, each on a new dish. */
    static void dueRange(Call call, int least, int most) {
        for (int inside : new int[] {least, most}) {
            due(inside + " is taken", call.answer(new DishPointer(), inside) != INVALID, true);
        }
        for (int outside : new int[] {least - 1, most + 1, Integer.MIN_VALUE, Integer.MAX_VALUE}) {
            due("the answer for " + outside, call.answer(new DishPointer(), outside), INVALID);
        }
    }

    private static void tell(String text) {
        wrong++;
        StackTraceElement[] stack = new Throwable().getStackTrace();
        int line = 0;
        while (line < stack.length - 1
                && (stack[line].getClassName().equals("Check") || stack[line].getMethodName().startsWith("due"))) {
            line++;
        }
        System.out.println(stack[line] + ": " + text + (sentence.isEmpty() ? "" : " <" + sentence + ">"));
    }

    /** Types a text, in place of the one that was there. */
    static void write(DishPointer dish, String text) {
        dish.clearText();
        for (int i = 0; i < text.length(); i++) {
            dish.type(text.charAt(i));
        }
    }

    /** The place and the reason of the fault that a text has on a new dish, both NOT_FOUND for none. */
    static void dueFault(String text, int place, int reason) {
        dueFault(new DishPointer(), text, place, reason);
    }

    static void dueFault(DishPointer dish, String text, int place, int reason) {
        write(dish, text);
        due("place of fault in " + text, dish.fault(0), place);
        due("reason of fault in " + text, dish.fault(1), reason);
    }

    /** Lets more minutes go by than one run can. */
    static void pass(DishPointer dish, int minutes) {
        for (int left = minutes; left > 0; left -= 2000) {
            dish.run(Math.min(left, 2000));
        }
    }

    /** What a dish tells of itself and of its first targets. */
    static int[] dump(DishPointer x, int targets) {
        int[] all = new int[19 + 18 + 13 * targets];
        for (int i = 0; i < 19; i++) {
            all[i] = x.count(i);
        }
        for (int i = 0; i < 18; i++) {
            all[19 + i] = x.axis(i / 9, i % 9);
        }
        for (int i = 0; i < 13 * targets; i++) {
            all[37 + i] = x.target(i / 13, i % 13);
        }
        return all;
    }

    /** Two dishes tell the same, now and behind each undo; less than 370 calls on each. */
    static void dueSame(String what, DishPointer one, DishPointer other) {
        dueSameDump(what, one, other, one.count(4));
        due(what + ": next", one.next(), other.next());
        due(what + ": isWound", one.isWound(), other.isWound());
        due(what + ": ifRun", one.ifRun(1500), other.ifRun(1500));
        dueSameText(what, one, other);
        for (int left = one.count(10); left > 0; left--) {
            due(what + ": undo", one.undo(), other.undo());
            dueSameDump(what + ", " + left + " undone", one, other, 0);
        }
        due(what + ": undo", one.undo(), NOT_POSSIBLE);
        due(what + ": undo", other.undo(), NOT_POSSIBLE);
    }

    private static void dueSameText(String what, DishPointer one, DishPointer other) {
        for (int i = 0; i < 2; i++) {
            due(what + ": fault " + i, one.fault(i), other.fault(i));
        }
    }

    private static void dueSameDump(String what, DishPointer one, DishPointer other, int targets) {
        int[] first = dump(one, targets);
        int[] second = dump(other, targets);
        for (int i = 0; i < first.length; i++) {
            due(what + ": number " + i, first[i], second[i]);
        }
    }

    static void end() {
        System.out.println(compared + " answers compared, " + wrong + " wrong");
        if (wrong != 0 || compared == 0) {
            System.exit(1);
        }
    }
}
