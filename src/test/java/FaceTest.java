import java.io.DataInputStream;
import java.io.IOException;
import java.lang.reflect.Array;
import java.lang.reflect.Constructor;
import java.lang.reflect.Field;
import java.lang.reflect.Method;
import java.lang.reflect.Modifier;
import java.nio.file.Files;
import java.nio.file.Path;
import java.util.ArrayList;
import java.util.Arrays;
import java.util.Collections;
import java.util.HashSet;
import java.util.List;
import java.util.Map;
import java.util.Set;
import java.util.TreeSet;
import java.util.regex.Matcher;
import java.util.regex.Pattern;

/** The public face of the class, and the rules of the language that can be seen by looking at the file. */
public final class FaceTest {
    private static final Map<String, Integer> CONSTANTS =
        Map.of("INVALID_ARGUMENT", -1, "ILLEGAL_STATE", -2, "CAPACITY_EXCEEDED", -3, "NONE", -99);
    private static final String METHODS = "addMouth2 setMouth3 setSound3 setNumber2 insert3 remove1 stretch2 pin2 draw2 "
        + "between2 finish0 breathe1 take1 restore1 undo0 append1 clearText0 load0 count1 mouth2 jump2 sound2 number1 "
        + "segment2 frame2 wrongness2 least1 leastWith2 why1 fault1 drawnSum0 speedFor1 nearest2";
    private static final List<String> BANNED = List.of("\\b(throw|throws|try|catch|finally|synchronized|assert)\\b",
        "\\b(import|package|Object|Exception|Error|System\\.(out|err|in|nanoTime|currentTimeMillis))\\b", "->", "::",
        "\\b(Thread|Random|Map|Set|String\\.format|Optional|Stream|var)\\b", "\\bstatic\\s*\\{", "\"\\s*\\+", "\\+\\s*\"",
        "[^\\x00-\\x7f]");

    private static final List<String> LIBRARY = List.of("java/lang/Object.<init>()V", "java/lang/Math.abs(I)I",
        "java/lang/Math.max(II)I", "java/lang/Math.min(II)I",
        "java/lang/System.arraycopy(Ljava/lang/Object;ILjava/lang/Object;II)V");
    // Some five hundredth of the room that all calls of a run live in.
    private static final int MOST_OBJECTS = 1000;
    private static final int MOST_ELEMENTS = 14000;

    private static int wrong = 0;

    public static void main(String[] args) throws IOException, IllegalAccessException {
        members();
        constants();
        methods();
        library(LipFlaps.class);
        for (Class<?> inside : LipFlaps.class.getDeclaredClasses()) {
            library(inside);
        }
        room();
        rules(Files.readString(Path.of(args.length > 0 ? args[0] : "src/main/java/LipFlaps.java")));
        System.out.println(wrong == 0 ? "the face is as due" : wrong + " things are not as due");
        if (wrong != 0) {
            System.exit(1);
        }
    }

    private static void due(String what, boolean isGood) {
        if (!isGood) {
            wrong++;
            System.out.println(what);
        }
    }

    private static void members() {
        due("the class is public and final", Modifier.isPublic(LipFlaps.class.getModifiers())
            && Modifier.isFinal(LipFlaps.class.getModifiers()));
        Constructor<?>[] constructors = LipFlaps.class.getDeclaredConstructors();
        due("one public constructor without parameters", constructors.length == 1
            && constructors[0].getParameterCount() == 0 && Modifier.isPublic(constructors[0].getModifiers()));
        for (Class<?> inside : LipFlaps.class.getDeclaredClasses()) {
            due(inside + " is static and not public", Modifier.isStatic(inside.getModifiers())
                && (inside.getModifiers() & (Modifier.PUBLIC | Modifier.PROTECTED)) == 0);
            due(inside + " has at most twenty fields", countFields(inside) <= 20);
            checkFields(inside);
        }
        checkFields(LipFlaps.class);
        due("at most twenty fields", countFields(LipFlaps.class) <= 20);
        due("at most twelve classes", LipFlaps.class.getDeclaredClasses().length < 12);
    }

    private static int countFields(Class<?> type) {
        int found = 0;
        for (Field field : type.getDeclaredFields()) {
            found += Modifier.isStatic(field.getModifiers()) ? 0 : 1;
        }
        return found;
    }

    private static void checkFields(Class<?> type) {
        for (Field field : type.getDeclaredFields()) {
            int modifiers = field.getModifiers();
            due(field + " is final", !Modifier.isStatic(modifiers) || Modifier.isFinal(modifiers));
            due(field + " is private", type != LipFlaps.class || Modifier.isPrivate(modifiers)
                || CONSTANTS.containsKey(field.getName()));
        }
    }

    private static void constants() throws IllegalAccessException {
        for (Field field : LipFlaps.class.getFields()) {
            due(field + " is in the document", CONSTANTS.containsKey(field.getName()) && field.getType() == int.class
                && Modifier.isStatic(field.getModifiers()) && field.getInt(null) == CONSTANTS.get(field.getName()));
        }
        due("four constants", LipFlaps.class.getFields().length == 4);
    }

    private static void methods() {
        Set<String> found = new TreeSet<>();
        Set<String> names = new HashSet<>();
        for (Method method : LipFlaps.class.getDeclaredMethods()) {
            if (Modifier.isPrivate(method.getModifiers())) {
                continue;
            }
            found.add(method.getName() + method.getParameterCount());
            names.add(method.getName());
            boolean isOfInts = method.getReturnType() == int.class
                && Collections.frequency(Arrays.asList(method.getParameterTypes()), int.class) == method.getParameterCount();
            due(method + " takes and returns int", isOfInts && Modifier.isPublic(method.getModifiers())
                && !Modifier.isStatic(method.getModifiers()));
        }
        due("the methods are " + found, found.equals(new TreeSet<>(Arrays.asList(METHODS.split(" ")))));
        checkNames(LipFlaps.class, names);
        for (Class<?> inside : LipFlaps.class.getDeclaredClasses()) {
            checkNames(inside, names);
        }
    }

    private static void checkNames(Class<?> type, Set<String> names) {
        for (Method method : type.getDeclaredMethods()) {
            boolean isOfFace = type == LipFlaps.class && Modifier.isPublic(method.getModifiers());
            due(method + " has a name of its own", isOfFace || !names.contains(method.getName()));
            due(method + " has few parameters", method.getParameterCount() <= 7);
        }
    }

    /** Rule 4: all that the compiled class calls outside the file; nothing that is linked at run time. */
    private static void library(Class<?> type) throws IOException {
        try (DataInputStream in = new DataInputStream(FaceTest.class.getResourceAsStream(type.getName() + ".class"))) {
            in.skipNBytes(8);
            Object[] constants = new Object[in.readUnsignedShort()];
            for (int i = 1; i < constants.length; i++) {
                int tag = in.readUnsignedByte();
                due(type + " is linked at run time", tag < 15);
                switch (tag) {
                    case 1: constants[i] = in.readUTF(); break;
                    case 3: case 4: in.readInt(); break;
                    case 5: case 6: in.readLong(); i++; break;
                    case 7: case 8: constants[i] = new int[] {tag, in.readUnsignedShort(), 0}; break;
                    case 9: case 10: case 11: case 12:
                        constants[i] = new int[] {tag, in.readUnsignedShort(), in.readUnsignedShort()};
                        break;
                    default: return;
                }
            }
            calls(type, constants);
        }
    }

    private static void calls(Class<?> type, Object[] constants) {
        for (Object constant : constants) {
            if (!(constant instanceof int[] reference) || reference[0] < 9 || reference[0] > 11) {
                continue;
            }
            Object owner = constants[((int[]) constants[reference[1]])[1]];
            int[] name = (int[]) constants[reference[2]];
            String call = owner + "." + constants[name[1]] + constants[name[2]];
            due(type + " uses " + call, call.startsWith("LipFlaps") || LIBRARY.contains(call));
        }
    }

    /** All that an object holds, which is all that its calls need, since no call makes an object. */
    private static void room() throws IllegalAccessException {
        List<Object> found = new ArrayList<>();
        found.add(new LipFlaps());
        int elements = 0;
        for (int i = 0; i < found.size(); i++) {
            elements += elementsOf(found.get(i), found);
        }
        due("one object is " + found.size() + " objects", found.size() <= MOST_OBJECTS);
        due("one object has " + elements + " fields and elements", elements <= MOST_ELEMENTS);
    }

    private static int elementsOf(Object object, List<Object> found) throws IllegalAccessException {
        if (object.getClass().isArray()) {
            int length = Array.getLength(object);
            for (int i = 0; i < length && !object.getClass().getComponentType().isPrimitive(); i++) {
                found.add(Array.get(object, i));
            }
            return length;
        }
        int fields = 0;
        for (Field field : object.getClass().getDeclaredFields()) {
            if (!Modifier.isStatic(field.getModifiers())) {
                fields++;
                field.setAccessible(true);
                if (!field.getType().isPrimitive()) {
                    found.add(field.get(object));
                }
            }
        }
        return fields;
    }

    private static void rules(String source) {
        String code = source.replaceAll("(?s)/\\*.*?\\*/", "").replaceAll("//[^\n]*", "");
        for (String banned : BANNED) {
            Matcher matcher = Pattern.compile(banned).matcher(code);
            due("the rules leave out " + banned, !matcher.find());
        }
        Matcher methods = Pattern.compile("(?ms)^( {4}| {8})[^ }\n][^\n;]*\\([^\n]*\\{\n.*?^\\1\\}").matcher(code);
        int found = 0;
        while (methods.find()) {
            found++;
            String method = methods.group();
            due("a long method: " + method.substring(0, 60), method.split("\n").length <= 60);
            boolean isConstructor = method.substring(0, method.indexOf('(')).matches("\\s*(public )?[A-Z]\\w*");
            due("a method makes objects: " + method.substring(0, 60), isConstructor || !method.matches("(?s).*\\bnew\\b.*"));
        }
        due("methods are found in the file", found > 60);
    }
}
