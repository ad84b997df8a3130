import java.io.IOException;
import java.lang.reflect.Constructor;
import java.lang.reflect.Field;
import java.lang.reflect.Method;
import java.lang.reflect.Modifier;
import java.nio.file.Files;
import java.nio.file.Path;
import java.util.Arrays;
import java.util.Collections;
import java.util.HashSet;
import java.util.List;
import java.util.Map;
import java.util.Set;
import java.util.TreeSet;
import java.util.regex.Matcher;
import java.util.regex.Pattern;

/** The public face of the class, and the rules of the language that can be seen by looking at the file. */
public final class FaceTest {
    private static final Map<String, Integer> CONSTANTS =
        Map.of("INVALID_ARGUMENT", -1, "ILLEGAL_STATE", -2, "CAPACITY_EXCEEDED", -3, "NONE", -99);
    private static final String METHODS = "addMouth2 setMouth3 setSound3 setNumber2 insert3 remove1 stretch2 pin2 draw2 "
        + "between2 finish0 breathe1 take1 restore1 undo0 append1 clearText0 load0 count1 mouth2 jump2 sound2 number1 "
        + "segment2 frame2 wrongness2 least1 leastWith2 why1 fault1 drawnSum0 speedFor1 nearest2";
    private static final List<String> BANNED = List.of("\\b(throw|throws|try|catch|finally|synchronized|assert)\\b",
        "\\b(import|package|Object|Exception|Error|System\\.(out|err|in|nanoTime|currentTimeMillis))\\b", "->", "::",
        "\\b(Thread|Random|Map|Set|String\\.format|Optional|Stream|var)\\b", "\\bstatic\\s*\\{", "\"\\s*\\+", "\\+\\s*\"",
        "[^\\x00-\\x7f]");

    private static int wrong = 0;

    public static void main(String[] args) throws IOException, IllegalAccessException {
        members();
        constants();
        methods();
        rules(Files.readString(Path.of(args.length > 0 ? args[0] : "src/main/java/LipFlaps.java")));
        System.out.println(wrong == 0 ? "the face is as due" : wrong + " things are not as due");
        if (wrong != 0) {
            System.exit(1);
        }
    }

    private static void due(String what, boolean isGood) {
        if (!isGood) {
            wrong++;
            System.out.println(what);
        }
    }

    private static void members() {
        due("the class is public and final", Modifier.isPublic(LipFlaps.class.getModifiers())
            && Modifier.isFinal(LipFlaps.class.getModifiers()));
        Constructor<?>[] constructors = LipFlaps.class.getDeclaredConstructors();
        due("one public constructor without parameters", constructors.length == 1
            && constructors[0].getParameterCount() == 0 && Modifier.isPublic(constructors[0].getModifiers()));
        for (Class<?> inside : LipFlaps.class.getDeclaredClasses()) {
            due(inside + " is static and not public", Modifier.isStatic(inside.getModifiers())
                && (inside.getModifiers() & (Modifier.PUBLIC | Modifier.PROTECTED)) == 0);
            due(inside + " has at most twenty fields", countFields(inside) <= 20);
            checkFields(inside);
        }
        checkFields(LipFlaps.class);
        due("at most twenty fields", countFields(LipFlaps.class) <= 20);
        due("at most twelve classes", LipFlaps.class.getDeclaredClasses().length < 12);
    }

    private static int countFields(Class<?> type) {
        int found = 0;
        for (Field field : type.getDeclaredFields()) {
            found += Modifier.isStatic(field.getModifiers()) ? 0 : 1;
        }
        return found;
    }

    private static void checkFields(Class<?> type) {
        for (Field field : type.getDeclaredFields()) {
            int modifiers = field.getModifiers();
            due(field + " is final", !Modifier.isStatic(modifiers) || Modifier.isFinal(modifiers));
            due(field + " is private", type != LipFlaps.class || Modifier.isPrivate(modifiers)
                || CONSTANTS.containsKey(field.getName()));
        }
    }

    private static void constants() throws IllegalAccessException {
        for (Field field : LipFlaps.class.getFields()) {
            due(field + " is in the document", CONSTANTS.containsKey(field.getName()) && field.getType() == int.class
                && Modifier.isStatic(field.getModifiers()) && field.getInt(null) == CONSTANTS.get(field.getName()));
        }
        due("four constants", LipFlaps.class.getFields().length == 4);
    }

    private static void methods() {
        Set<String> found = new TreeSet<>();
        Set<String> names = new HashSet<>();
        for (Method method : LipFlaps.class.getDeclaredMethods()) {
            if (Modifier.isPrivate(method.getModifiers())) {
                continue;
            }
            found.add(method.getName() + method.getParameterCount());
            names.add(method.getName());
            boolean isOfInts = method.getReturnType() == int.class
                && Collections.frequency(Arrays.asList(method.getParameterTypes()), int.class) == method.getParameterCount();
            due(method + " takes and returns int", isOfInts && Modifier.isPublic(method.getModifiers())
                && !Modifier.isStatic(method.getModifiers()));
        }
        due("the methods are " + found, found.equals(new TreeSet<>(Arrays.asList(METHODS.split(" ")))));
        checkNames(LipFlaps.class, names);
        for (Class<?> inside : LipFlaps.class.getDeclaredClasses()) {
            checkNames(inside, names);
        }
    }

    private static void checkNames(Class<?> type, Set<String> names) {
        for (Method method : type.getDeclaredMethods()) {
            boolean isOfFace = type == LipFlaps.class && Modifier.isPublic(method.getModifiers());
            due(method + " has a name of its own", isOfFace || !names.contains(method.getName()));
            due(method + " has few parameters", method.getParameterCount() <= 7);
        }
    }

    private static void rules(String source) {
        String code = source.replaceAll("(?s)/\\*.*?\\*/", "").replaceAll("//[^\n]*", "");
        for (String banned : BANNED) {
            Matcher matcher = Pattern.compile(banned).matcher(code);
            due("the rules leave out " + banned, !matcher.find());
        }
        Matcher methods = Pattern.compile("(?ms)^( {4}| {8})[^ }\n][^\n;]*\\([^\n]*\\{\n.*?^\\1\\}").matcher(code);
        int found = 0;
        while (methods.find()) {
            found++;
            due("a long method: " + methods.group().substring(0, 60), methods.group().split("\n").length <= 60);
        }
        due("methods are found in the file", found > 60);
    }
}
