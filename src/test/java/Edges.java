import java.util.ArrayList;
import java.util.List;
import java.util.regex.Matcher;
import java.util.regex.Pattern;

/**
 * Holds a sentence of the document against the class, by a script of calls on a new object. A call stands as in the
 * document, with "= due" behind it; without that, all but an error is right. 'write "a1"' appends characters.
 *
 * <p>Behind each call of a script all that can be seen of the object is held against the laws of "Undo" and
 * "Errors": a refused call and one that looks change nothing, neither the text, the snapshots nor the history; an
 * action records the state before it, and no other call does; undo() brings that state back, and leaves the text.
 */
final class Edges {
    static final String THREE = "addMouth(3, 4) addMouth(6, 4)\n";
    static final String EIGHT = "addMouth(1, 4) addMouth(2, 4) addMouth(3, 4) addMouth(4, 4) addMouth(5, 4) "
        + "addMouth(6, 4) addMouth(7, 4)\n";
    static final String FRAMES_79 = "insert(0, 0, 20) insert(1, 1, 20) insert(2, 2, 20) insert(3, 3, 19)\n";
    static final String FRAMES_99 = FRAMES_79 + "insert(4, 4, 20) = 99\n";
    static final String SEGMENTS_29 = "insert(0, 0, 1)\n".repeat(29);
    static final String SEGMENTS_30 = SEGMENTS_29 + "insert(29, 1, 1) = 30\n";

    private static final int MOST_CALLS = 512;
    private static final int MOST_STATES = 5;
    private static final int MOST_PRINTED = 20;
    private static final int NO_SLOT = -1;
    private static final Pattern STEP =
        Pattern.compile("write \"([^\"]*)\"|(\\w+)\\(([^)]*)\\)(?:\\s*=\\s*(-?\\w+))?|#[^\n]*|\\s+");

    private record Step(int which, int[] arguments, String due, boolean isOfText) {
        int argument(int place) {
            return place < arguments.length ? arguments[place] : 0;
        }

        @Override
        public String toString() {
            StringBuilder text = new StringBuilder(Calls.NAMES.get(which)).append('(');
            for (int i = 0; i < arguments.length; i++) {
                text.append(i == 0 ? "" : ", ").append(arguments[i]);
            }
            return text.append(')').toString();
        }

        boolean isError(int answer) {
            return answer < 0 && answer != LipFlaps.NONE;
        }

        boolean isAsDue(int answer) {
            return due == null ? !isError(answer) : answer == number(due);
        }
    }

    /** What can be seen of an object: its state and, by undo(), the states in its history; and its text. */
    private record World(List<String> states, String text) {
    }

    /** An object that counts its calls, since nothing is promised of it behind the 512th one. */
    private static final class Counted {
        private final LipFlaps flaps = new LipFlaps();
        private int calls = 0;

        int call(int which, int a, int b, int c) {
            calls++;
            if (calls > MOST_CALLS) {
                throw new IllegalStateException("a script is too long");
            }
            return Calls.call(flaps, which, a, b, c);
        }

        int call(Step step) {
            return call(step.which, step.argument(0), step.argument(1), step.argument(2));
        }

        int call(String name, int... arguments) {
            return call(new Step(Calls.NAMES.indexOf(name), arguments, null, false));
        }
    }

    private int scripts = 0;
    private int wrong = 0;

    /** One sentence of a promise or of the terms, and a script that would go wrong if it were broken. */
    void hold(String promise, String sentence, String... script) {
        scripts++;
        List<Step> steps = steps(String.join("\n", script));
        List<Step> done = new ArrayList<>();
        Counted object = new Counted();
        World before = null;
        for (Step step : steps) {
            int answer = object.call(step);
            String where = promise + ", \"" + sentence + "\": call " + (done.size() + 1) + ", " + step;
            if (!step.isAsDue(answer)) {
                wrong(where + ", answered " + answer + ", due is " + (step.due == null ? "no error" : step.due));
            }
            if (step.isOfText) {
                done.add(step);
                before = null;
                continue;
            }
            before = before == null ? world(done) : before;
            List<Step> then = new ArrayList<>(done);
            then.add(step);
            World after = world(then);
            holdLaws(where, step, answer, before, after, then);
            done = then;
            before = after;
        }
    }

    /** An argument, "?" in the call, that is refused below and above its range, and taken at both ends of it. */
    void range(String promise, String sentence, String setup, String call, int low, int high) {
        for (int bad : new int[] {Integer.MIN_VALUE, low - 1, high + 1, Integer.MAX_VALUE}) {
            hold(promise, sentence, setup, call.replace("?", "" + bad) + " = BAD");
        }
        for (int good : new int[] {low, high}) {
            hold(promise, sentence, setup, call.replace("?", "" + good));
        }
    }

    /** A text that is read behind a setup. */
    void text(String promise, String sentence, String setup, String text, int due) {
        hold(promise, sentence, setup, "write \"" + text + "\" load() = " + due);
    }

    void end() {
        System.out.println(wrong == 0 ? scripts + " scripts are as due" : wrong + " things are not as due");
        if (wrong != 0) {
            System.exit(1);
        }
    }

    void wrong(String what) {
        wrong++;
        if (wrong <= MOST_PRINTED) {
            System.out.println(what);
        }
    }

    private void holdLaws(String where, Step step, int answer, World before, World after, List<Step> done) {
        List<String> states = before.states;
        boolean isAction = Calls.isAction(step.which) && !step.isError(answer);
        if (isAction) {
            List<String> recorded = states.subList(0, Math.min(MOST_STATES, states.size()));
            sameStates(where + ": the history", recorded, after.states.subList(1, after.states.size()));
            boolean isRead = step.which == Calls.LOAD;
            List<Step> undone = new ArrayList<>(done);
            undone.add(new Step(Calls.UNDO, new int[0], null, false));
            same(where + ": the text", isRead ? "0: 0" : before.text, isRead ? start(after.text) : text(undone));
        } else if (step.which == Calls.UNDO && !step.isError(answer)) {
            sameStates(where + ": the states", states.subList(1, states.size()), after.states);
            same(where + ": the states left", "" + (states.size() - 2), "" + answer);
            same(where + ": the length of the text", length(before.text), length(after.text));
        } else {
            sameStates(where + ": the states", states, after.states);
            boolean isOfText = step.which == Calls.APPEND || step.which == Calls.CLEAR;
            same(where + ": the text", isOfText && !step.isError(answer) ? after.text : before.text, after.text);
        }
    }

    private void sameStates(String what, List<String> due, List<String> got) {
        same(what + ", its length", "" + due.size(), "" + got.size());
        for (int i = 0; i < Math.min(due.size(), got.size()); i++) {
            same(what + ", " + i + " states back", due.get(i), got.get(i));
        }
    }

    private void same(String what, String due, String got) {
        if (!due.equals(got)) {
            wrong(what + " is not as due:\n  due " + due + "\n  got " + got);
        }
    }

    private static World world(List<Step> done) {
        List<String> states = new ArrayList<>();
        int history = replay(done, 0).call("count", 7);
        for (int back = 0; back <= history; back++) {
            states.add(state(done, back));
        }
        return new World(states, text(done));
    }

    /** A state and both snapshots in it; looked at in parts, each on an object of its own, to stay under 512 calls. */
    private static String state(List<Step> done, int back) {
        StringBuilder view = new StringBuilder();
        for (int slot = NO_SLOT; slot < 2; slot++) {
            for (int part = 0; part < 2; part++) {
                Counted object = replay(done, back);
                view.append(slot == NO_SLOT ? object.call("count", 6) : object.call("restore", slot)).append(": ");
                look(object, part, view);
            }
        }
        return view.toString();
    }

    private static void look(Counted object, int part, StringBuilder view) {
        if (part == 0) {
            all(object, view, "mouth", object.call("count", 0), 0, 2);
            all(object, view, "segment", object.call("count", 1), 0, 2);
            all(object, view, "sound", 9, 0, 4);
            all(object, view, "number", 5, 0, 0);
        } else {
            all(object, view, "frame", object.call("count", 2), 2, 4);
        }
    }

    private static void all(Counted object, StringBuilder view, String name, int count, int from, int to) {
        view.append(name).append('s');
        for (int i = 0; i < count; i++) {
            for (int what = from; what < Math.max(to, 1); what++) {
                view.append(what == from ? ' ' : ',').append(object.call(name, i, what));
            }
        }
        view.append(". ");
    }

    /** The length of the text, what load() answers to it, and what is there then. */
    private static String text(List<Step> done) {
        Counted object = replay(done, 0);
        StringBuilder view = new StringBuilder().append(object.call("count", 8)).append(": ");
        view.append(object.call("load")).append(' ');
        look(object, 0, view);
        look(object, 1, view);
        return view.toString();
    }

    private static String length(String text) {
        return text.substring(0, text.indexOf(':'));
    }

    private static String start(String text) {
        return text.substring(0, text.indexOf(' ', text.indexOf(' ') + 1));
    }

    private static Counted replay(List<Step> done, int back) {
        Counted object = new Counted();
        for (Step step : done) {
            object.call(step);
        }
        for (int i = 0; i < back; i++) {
            object.call("undo");
        }
        return object;
    }

    private static List<Step> steps(String script) {
        List<Step> steps = new ArrayList<>();
        Matcher matcher = STEP.matcher(script);
        int end = 0;
        while (matcher.find() && matcher.start() == end) {
            end = matcher.end();
            if (matcher.group(1) != null) {
                for (char character : matcher.group(1).toCharArray()) {
                    steps.add(new Step(Calls.APPEND, new int[] {character}, null, true));
                }
            } else if (matcher.group(2) != null) {
                int which = Calls.NAMES.indexOf(matcher.group(2));
                if (which < 0) {
                    throw new IllegalArgumentException("no such call: " + matcher.group());
                }
                steps.add(new Step(which, numbers(matcher.group(3)), matcher.group(4), false));
            }
        }
        if (end != script.length()) {
            throw new IllegalArgumentException("not a script: " + script.substring(end));
        }
        return steps;
    }

    private static int[] numbers(String arguments) {
        if (arguments.isBlank()) {
            return new int[0];
        }
        String[] words = arguments.split(",");
        int[] numbers = new int[words.length];
        for (int i = 0; i < words.length; i++) {
            numbers[i] = number(words[i].trim());
        }
        return numbers;
    }

    private static int number(String word) {
        switch (word) {
            case "BAD": return LipFlaps.INVALID_ARGUMENT;
            case "STATE": return LipFlaps.ILLEGAL_STATE;
            case "FULL": return LipFlaps.CAPACITY_EXCEEDED;
            case "NONE": return LipFlaps.NONE;
            default: return Integer.parseInt(word);
        }
    }
}
