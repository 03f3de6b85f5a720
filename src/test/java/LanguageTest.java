import java.io.IOException;
import java.lang.reflect.Constructor;
import java.lang.reflect.Field;
import java.lang.reflect.Method;
import java.lang.reflect.Modifier;
import java.nio.file.Files;
import java.nio.file.Path;
import java.util.Arrays;
import java.util.Set;
import java.util.TreeSet;
import java.util.regex.Matcher;
import java.util.regex.Pattern;

/** The face of the class, and the rules of ../shared/LANGUAGE.md that can be looked at from outside. */
public final class LanguageTest {
    private static final int SOME_TWENTY = 22;
    private static final int SOME_TWELVE = 12;

    private static final Set<String> FACE = new TreeSet<>(Arrays.asList(
        "set(int,int)", "setAxis(int,int,int)", "gust(int,int)", "count(int)", "axis(int,int)",
        "way(int,int,int)", "placeFor(int)", "slew(int,int)", "isWound()",
        "add(int,int,int,int,int,int)", "drop(int)", "target(int,int)", "why(int)", "next()",
        "run(int)", "ifRun(int)", "undo()", "type(int)", "clearText()", "fault(int)", "enter()"));

    public static void main(String[] args) throws IOException {
        Path source = Path.of(args.length == 0 ? "src/main/java/DishPointer.java" : args[0]);
        face();
        constants();
        classesInside();
        words(codeOf(Files.readString(source)));
        lengths(Files.readString(source));
        Check.end();
    }

    private static void face() {
        Class<?> dish = DishPointer.class;
        Check.due("class is public and final", Modifier.toString(dish.getModifiers()), "public final");
        Check.due("super class", dish.getSuperclass(), Object.class);
        Check.due("interfaces", dish.getInterfaces().length, 0);
        Set<String> methods = new TreeSet<>();
        Set<String> privateNames = new TreeSet<>();
        for (Method method : dish.getDeclaredMethods()) {
            if (Modifier.isPrivate(method.getModifiers())) {
                privateNames.add(method.getName());
            } else {
                Check.due(method + " is public alone", Modifier.toString(method.getModifiers()), "public");
                Check.due(method + " returns", method.getReturnType(), int.class);
                methods.add(method.getName() + Arrays.toString(method.getParameterTypes())
                    .replace("[", "(").replace("]", ")").replace(" ", ""));
            }
        }
        Check.due("methods of the face", methods, FACE);
        privateNames.retainAll(faceNames());
        Check.due("private methods with a public name", privateNames, Set.of());
        Constructor<?>[] constructors = dish.getDeclaredConstructors();
        Check.due("constructors", constructors.length, 1);
        Check.due("constructor", constructors[0].toString(), "public DishPointer()");
    }

    private static Set<String> faceNames() {
        Set<String> names = new TreeSet<>();
        FACE.forEach(method -> names.add(method.substring(0, method.indexOf('('))));
        return names;
    }

    private static void constants() {
        Check.due(DishPointer.INVALID_ARGUMENT, -100001);
        Check.due(DishPointer.NOT_POSSIBLE, -100002);
        Check.due(DishPointer.LIMIT_REACHED, -100003);
        Check.due(DishPointer.NOT_FOUND, -100004);
        Set<String> open = new TreeSet<>();
        for (Field field : DishPointer.class.getDeclaredFields()) {
            if (!Modifier.isPrivate(field.getModifiers())) {
                open.add(Modifier.toString(field.getModifiers()) + " " + field.getType() + " " + field.getName());
            }
        }
        Check.due("open fields", open, new TreeSet<>(Arrays.asList(
            "public static final int INVALID_ARGUMENT", "public static final int NOT_POSSIBLE",
            "public static final int LIMIT_REACHED", "public static final int NOT_FOUND")));
        fieldsOf(DishPointer.class);
    }

    private static void fieldsOf(Class<?> type) {
        int own = 0;
        for (Field field : type.getDeclaredFields()) {
            if (Modifier.isStatic(field.getModifiers())) {
                Check.due(field + " is final", Modifier.isFinal(field.getModifiers()), true);
            } else {
                own++;
            }
        }
        Check.due(type + " has few fields", own <= SOME_TWENTY, true);
    }

    private static void classesInside() {
        Class<?>[] inside = DishPointer.class.getDeclaredClasses();
        Check.due("few classes", inside.length <= SOME_TWELVE, true);
        for (Class<?> type : inside) {
            Check.due(type + " is static", Modifier.isStatic(type.getModifiers()), true);
            Check.due(type + " is open", Modifier.isPublic(type.getModifiers())
                || Modifier.isProtected(type.getModifiers()), false);
            fieldsOf(type);
            for (Method method : type.getDeclaredMethods()) {
                Check.due(method + " is private with a public name",
                    Modifier.isPrivate(method.getModifiers()) && faceNames().contains(method.getName()), false);
                Check.due(method + " takes few", method.getParameterCount() <= 7, true);
            }
        }
    }

    /** The source without what its comments, texts and signs say. */
    private static String codeOf(String source) {
        return source.replaceAll("(?s)/\\*.*?\\*/", " ")
            .replaceAll("//[^\n]*", " ")
            .replaceAll("\"(\\\\.|[^\"\\\\])*\"", "\"\"")
            .replaceAll("'(\\\\.|[^'\\\\])+'", "' '");
    }

    private static void words(String code) {
        String[] words = {"throw", "throws", "try", "catch", "finally", "synchronized", "assert", "volatile",
            "native", "package", "hashCode"};
        for (String word : words) {
            Check.due("word " + word, Pattern.compile("\\b" + word + "\\b").matcher(code).find(), false);
        }
        for (String sign : new String[] {"::", "Exact(", "Thread", "System.out", "System.nano",
            "System.current", "Math.random", "static {"}) {
            Check.due("sign " + sign, code.contains(sign), false);
        }
        Matcher arrow = Pattern.compile("(?m)^(.*)->").matcher(code);
        while (arrow.find()) {
            Check.due("a lambda: " + arrow.group(), arrow.group(1).trim().matches("(case|default)\\b.*"), true);
        }
        Pattern allowed = Pattern.compile("System\\.arraycopy|Arrays\\.(copyOf|copyOfRange|fill)"
            + "|(Math|Integer|Long)\\.\\w+|List\\.of");
        Matcher library = Pattern.compile("\\b(System|Math|Arrays|Integer|Long|String|StringBuilder|List)\\.(\\w+)")
            .matcher(code.replaceAll("(?m)^import .*$", ""));
        while (library.find()) {
            Check.due("library: " + library.group(), allowed.matcher(library.group()).matches(), true);
        }
        Matcher imports = Pattern.compile("(?m)^import (.*);$").matcher(code);
        while (imports.find()) {
            Check.due("import " + imports.group(1),
                imports.group(1).matches("java\\.util\\.(ArrayList|List|Arrays|Iterator)"), true);
        }
    }

    private static void lengths(String source) {
        String[] lines = source.split("\n");
        Pattern header = Pattern.compile("^( {4}| {8})(\\w[\\w\\[\\] ]* )?\\w+\\(.*\\) \\{$");
        int methods = 0;
        for (int i = 0; i < lines.length; i++) {
            Matcher matcher = header.matcher(lines[i]);
            if (matcher.matches()) {
                methods++;
                int end = i;
                while (!lines[end].equals(matcher.group(1) + "}")) {
                    end++;
                }
                Check.due(lines[i].trim() + " is short", end - i + 1 <= 60, true);
            }
        }
        Check.due("methods are found", methods > 0, true);
    }
}
