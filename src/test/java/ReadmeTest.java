import java.io.IOException;
import java.lang.reflect.Field;
import java.nio.file.DirectoryStream;
import java.nio.file.Files;
import java.nio.file.Path;
import java.util.ArrayList;
import java.util.List;
import java.util.Map;
import java.util.Random;
import java.util.Set;
import java.util.TreeMap;
import java.util.TreeSet;
import java.util.regex.Matcher;
import java.util.regex.Pattern;

/** README.md tells what is so: its example, the constants, the calls with their errors, and the tests. */
public final class ReadmeTest {
    private static final Pattern CALL = Pattern.compile("flaps\\.(\\w+)\\(([-0-9, ]*)\\);\\s*// (-?\\w+).*");
    private static final Pattern WRITE = Pattern.compile("for \\(char c : \"(.*)\"\\.toCharArray\\(\\)\\) flaps\\.append\\(c\\);");
    private static final Pattern CONSTANT_ROW = Pattern.compile("(?m)^\\| `([A-Z_]+)` \\| (-\\d+) \\|");
    private static final Pattern CALL_ROW =
        Pattern.compile("(?m)^\\| `(\\w+)\\(([^)]*)\\)` \\| (yes|no) \\|.*\\|([^|]*)\\|$");
    private static final Pattern ERROR = Pattern.compile("`([A-Z_]{3,})`|-1000 or less");
    private static final String NO_ACTION = "no";
    private static final String TEXT_ERROR = "-1000 or less";
    private static final int RUNS = 2000;
    private static final int MOST_CALLS = 512;
    private static final int MOST_STATES = 5;
    // addMouth, insert, pin and draw.
    private static final int[] BUILDING = {0, 4, 7, 8};

    private final Map<String, Integer> constants = new TreeMap<>();
    private int wrong = 0;

    public static void main(String[] args) throws IOException, IllegalAccessException {
        ReadmeTest test = new ReadmeTest();
        String page = Files.readString(Path.of("README.md"));
        test.constants(page);
        test.example(page);
        test.calls(page, Files.readString(Path.of(args.length > 0 ? args[0] : "src/main/java/LipFlaps.java")));
        test.tests(page);
        System.out.println(test.wrong == 0 ? "the readme is as due" : test.wrong + " things are not as due");
        if (test.wrong != 0) {
            System.exit(1);
        }
    }

    private void same(String what, Object told, Object found) {
        if (!told.equals(found)) {
            wrong++;
            System.out.println(what + ": README.md tells " + told + ", so is " + found);
        }
    }

    private void constants(String page) throws IllegalAccessException {
        for (Field field : LipFlaps.class.getFields()) {
            constants.put(field.getName(), field.getInt(null));
        }
        Map<String, Integer> told = new TreeMap<>();
        Matcher row = CONSTANT_ROW.matcher(page);
        while (row.find()) {
            told.put(row.group(1), Integer.valueOf(row.group(2)));
        }
        same("the constants", told, constants);
    }

    private void example(String page) {
        int start = page.indexOf("```java") + "```java".length();
        LipFlaps flaps = null;
        for (String line : page.substring(start, page.indexOf("```", start)).trim().split("\n")) {
            Matcher call = CALL.matcher(line);
            Matcher write = WRITE.matcher(line);
            if (line.equals("LipFlaps flaps = new LipFlaps();")) {
                flaps = new LipFlaps();
            } else if (write.matches()) {
                for (char character : write.group(1).toCharArray()) {
                    flaps.append(character);
                }
            } else if (call.matches() && Calls.NAMES.contains(call.group(1))) {
                same(line, number(call.group(3)), answer(flaps, call.group(1), call.group(2)));
            } else {
                same("the example", line, "not a call");
            }
        }
    }

    private int number(String word) {
        return constants.containsKey(word) ? constants.get(word) : Integer.parseInt(word);
    }

    private static int answer(LipFlaps flaps, String name, String told) {
        int[] arguments = new int[3];
        String[] words = told.isBlank() ? new String[0] : told.split(", *");
        for (int i = 0; i < words.length; i++) {
            arguments[i] = Integer.parseInt(words[i]);
        }
        return Calls.call(flaps, Calls.NAMES.indexOf(name), arguments[0], arguments[1], arguments[2]);
    }

    /** Each row against what is seen of the call in runs by chance (always the same ones), and in the source. */
    private void calls(String page, String source) {
        List<Set<String>> errors = new ArrayList<>();
        List<Set<Integer>> records = new ArrayList<>();
        for (int which = 0; which < Calls.NAMES.size(); which++) {
            errors.add(new TreeSet<>());
            records.add(new TreeSet<>());
        }
        for (int run = 0; run < RUNS; run++) {
            watch(new Random(run), errors, records);
        }
        List<String> told = new ArrayList<>();
        Matcher row = CALL_ROW.matcher(page);
        while (row.find()) {
            int which = Calls.NAMES.indexOf(row.group(1));
            told.add(row.group(1));
            if (which >= 0) {
                same(row.group(1) + ", its arguments", row.group(2), argumentsOf(row.group(1), source));
                same(row.group(1) + ", its errors", namesOf(row.group(4)), errors.get(which));
                int recorded = row.group(1).equals("undo") ? -1 : row.group(3).equals(NO_ACTION) ? 0 : 1;
                same(row.group(1) + ", an action", Set.of(recorded), records.get(which));
            }
        }
        same("the calls", told, Calls.NAMES);
    }

    private static String argumentsOf(String name, String source) {
        Matcher head = Pattern.compile("public int " + name + "\\(([^)]*)\\)").matcher(source);
        return head.find() ? head.group(1).replace("int ", "") : "";
    }

    private static Set<String> namesOf(String cell) {
        Set<String> names = new TreeSet<>();
        Matcher error = ERROR.matcher(cell);
        while (error.find()) {
            names.add(error.group(1) == null ? TEXT_ERROR : error.group(1));
        }
        return names;
    }

    private void watch(Random chance, List<Set<String>> errors, List<Set<Integer>> records) {
        LipFlaps flaps = new LipFlaps();
        int[] favourites = {chance.nextInt(Calls.NAMES.size()), chance.nextInt(Calls.NAMES.size())};
        int calls = chance.nextBoolean() ? fill(flaps) : 0;
        int before = flaps.count(7);
        for (calls++; calls + 2 <= MOST_CALLS; calls += 2) {
            int which = pick(chance, favourites, before);
            int answer = Calls.call(flaps, which, argument(chance), argument(chance), argument(chance));
            int after = flaps.count(7);
            String error = errorOf(answer);
            if (!error.isEmpty()) {
                errors.get(which).add(error);
            }
            boolean isRefused = !error.isEmpty() && answer != LipFlaps.NONE;
            if (isRefused) {
                same(Calls.NAMES.get(which) + " that is refused, the history", before, after);
            } else if (before < MOST_STATES || !Calls.isAction(which)) {
                records.get(which).add(after - before);
            }
            before = after;
        }
    }

    /** Leaves room for one mouth, three frames and one character. */
    private static int fill(LipFlaps flaps) {
        int calls = 0;
        for (int i = 0; i < 6; i++, calls += 2) {
            flaps.addMouth(i, i);
            flaps.insert(i, i, 16);
        }
        for (int i = 0; i < 119; i++, calls++) {
            flaps.append(' ');
        }
        return calls;
    }

    /** Calls that are made again and again run out of room; those that build make the others possible. */
    private static int pick(Random chance, int[] favourites, int states) {
        int dice = chance.nextInt(20);
        if (states == MOST_STATES && dice < 3) {
            return Calls.UNDO;
        }
        return dice < 12 ? favourites[dice % 2] : dice < 19 ? BUILDING[chance.nextInt(BUILDING.length)]
            : chance.nextInt(Calls.NAMES.size());
    }

    private static int argument(Random chance) {
        switch (chance.nextInt(8)) {
            case 0: case 1: return chance.nextInt(23) - 1;
            case 2: return " a.!019b".charAt(chance.nextInt(8));
            case 3: return chance.nextInt(300);
            default: return chance.nextInt(4);
        }
    }

    private String errorOf(int answer) {
        for (Map.Entry<String, Integer> constant : constants.entrySet()) {
            if (constant.getValue() == answer) {
                return constant.getKey();
            }
        }
        return answer >= 0 ? "" : answer <= -1000 ? TEXT_ERROR : "" + answer;
    }

    private void tests(String page) throws IOException {
        Set<String> told = new TreeSet<>();
        Matcher name = Pattern.compile("`(\\w+Test)`").matcher(page);
        while (name.find()) {
            told.add(name.group(1) + ".java");
        }
        Set<String> found = new TreeSet<>();
        try (DirectoryStream<Path> files = Files.newDirectoryStream(Path.of("src/test/java"), "*Test.java")) {
            for (Path file : files) {
                found.add(file.getFileName().toString());
            }
        }
        same("the tests", told, found);
    }
}
