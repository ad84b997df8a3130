import java.util.ArrayList;
import java.util.List;
import java.util.Random;

/**
 * Long runs of calls by chance (always the same ones), compared with a second, slow program that is
 * written another way: frames are objects in lists, states are deep copies, plans are built run by run.
 */
public final class ModelTest {
    private static final int BAD = -1;
    private static final int STATE = -2;
    private static final int FULL = -3;
    private static final int NONE = -99;
    private static final int RUNS = 400;
    private static final int CALLS = 512;

    public static void main(String[] args) {
        int wrong = 0;
        for (int run = 0; run < RUNS && wrong < 20; run++) {
            wrong += new ModelTest(run).compare() ? 0 : 1;
        }
        System.out.println(wrong == 0 ? "all runs are as the model's" : wrong + " runs are not as the model's");
        if (wrong != 0) {
            System.exit(1);
        }
    }

    private final int run;
    private final Random chance;
    private final LipFlaps real = new LipFlaps();
    private final Model model = new Model();
    private String pending = "";
    private boolean isReading = false;

    private ModelTest(int run) {
        this.run = run;
        this.chance = new Random(run);
    }

    private boolean compare() {
        for (int call = 0; call < CALLS; call++) {
            int which = pick();
            int a = argument(which, 0);
            int b = argument(which, 1);
            int c = argument(which, 2);
            int want = model.call(which, a, b, c);
            int got = Calls.call(real, which, a, b, c);
            if (got != want) {
                System.out.println("run " + run + ", call " + call + ": " + Calls.NAMES.get(which) + "(" + a + ", " + b + ", " + c
                    + ") answered " + got + ", due is " + want);
                return false;
            }
        }
        return true;
    }

    private int pick() {
        if (!pending.isEmpty()) {
            return 15;
        }
        if (isReading) {
            isReading = false;
            return 17;
        }
        int dice = chance.nextInt(100);
        if (dice < 4) {
            pending = text();
            isReading = chance.nextInt(8) > 0;
            return 16;
        }
        if (dice < 20) {
            return model.state.now.segments.size() < 3 + run % 9 ? 4 : 24;
        }
        if (dice < 30) {
            return run % 2 == 0 ? 24 : 8;
        }
        return chance.nextInt(Calls.NAMES.size());
    }

    private String text() {
        StringBuilder text = new StringBuilder();
        int items = chance.nextInt(4);
        for (int i = 0; i < items; i++) {
            text.append("abcdefghi.".charAt(chance.nextInt(10))).append(1 + chance.nextInt(run % 3 == 0 ? 20 : 4));
            if (chance.nextInt(3) == 0) {
                text.append('!').append(chance.nextInt(model.state.now.mouths.size()));
            }
        }
        for (int i = chance.nextInt(3); i > 0; i--) {
            text.insert(chance.nextInt(text.length() + 1), ' ');
        }
        if (chance.nextInt(2) == 0) {
            text.insert(chance.nextInt(text.length() + 1), "0123456789a. !jA~".charAt(chance.nextInt(17)));
        }
        return text.toString();
    }

    private int argument(int which, int place) {
        if (which == 15 && !pending.isEmpty()) {
            int character = place == 0 ? pending.charAt(0) : 0;
            pending = place == 2 ? pending.substring(1) : pending;
            return character;
        }
        int dice = chance.nextInt(60);
        if (dice == 0) {
            int[] odd = {Integer.MIN_VALUE, Integer.MAX_VALUE, -1, -2, -99, 10, 20, 21, 100, 256, 99999, 100000};
            return odd[chance.nextInt(odd.length)];
        }
        Scene now = model.state.now;
        int mouths = now.mouths.size();
        int frames = now.frames().size();
        int segments = now.segments.size();
        int mouth = chance.nextInt(mouths + (dice == 1 ? 2 : 0));
        int frame = chance.nextInt(frames + 1 + (dice == 1 ? 1 : 0)) - (dice < 40 && frames > 0 ? 1 : 0);
        int segment = chance.nextInt(segments + 1) - (dice < 40 && segments > 0 ? 1 : 0);
        int length = 1 + chance.nextInt(run % 3 == 0 ? 21 : 5);
        switch (Calls.NAMES.get(which)) {
            case "addMouth": case "nearest":
                return chance.nextInt(10);
            case "setMouth":
                return place == 0 ? mouth : chance.nextInt(10);
            case "setSound":
                return place == 0 ? chance.nextInt(9) : place == 1 ? chance.nextInt(4) : chance.nextInt(5);
            case "setNumber":
                return place == 0 ? chance.nextInt(5) : dice < 30 ? 1 + chance.nextInt(3) : chance.nextInt(20);
            case "insert":
                return place == 0 ? chance.nextInt(segments + 1) : place == 1 ? chance.nextInt(10) : length;
            case "remove":
                return segment;
            case "stretch":
                return place == 0 ? segment : length;
            case "pin": case "draw":
                return place == 0 ? frame : mouth - (dice < 20 ? 1 : 0);
            case "wrongness": case "leastWith":
                return place == 0 ? frame : mouth;
            case "jump": case "mouth":
                return place == 0 || which == 20 ? mouth : chance.nextInt(2);
            case "between": case "why":
                return frame;
            case "breathe":
                return length;
            case "segment":
                return place == 0 ? segment : chance.nextInt(3);
            case "frame":
                return place == 0 ? frame : chance.nextInt(7);
            case "append":
                return dice < 30 ? 32 : 1 + chance.nextInt(255);
            case "speedFor":
                return chance.nextInt(1 + 30 * Math.max(1, frames));
            case "sound":
                return chance.nextInt(place == 0 ? 9 : 4);
            case "number":
                return chance.nextInt(5);
            case "count":
                return chance.nextInt(9);
            default:
                return chance.nextInt(2);
        }
    }

    private record Mouth(int opening, int width) {
        int away(int toOpening, int toWidth) {
            return Math.max(Math.abs(opening - toOpening), Math.abs(width - toWidth));
        }

        int away(Mouth other) {
            return away(other.opening, other.width);
        }
    }

    private static final class Frame {
        int pin = NONE;
        int drawn = NONE;
    }

    private static final class Segment {
        final int kind;
        final List<Frame> frames = new ArrayList<>();

        Segment(int kind, int length) {
            this.kind = kind;
            lengthen(length);
        }

        void lengthen(int length) {
            while (frames.size() < length) {
                frames.add(new Frame());
            }
            while (frames.size() > length) {
                frames.remove(frames.size() - 1);
            }
        }
    }

    private record Plan(int sum, String mouths) {
        boolean isBetterThan(Plan other) {
            return other == null || sum < other.sum || sum == other.sum && mouths.compareTo(other.mouths) < 0;
        }
    }

    private static final class Scene {
        List<Mouth> mouths = new ArrayList<>(List.of(new Mouth(0, 4)));
        int[][] sounds = new int[9][];
        int[] numbers = {3, 1, 5, 40, 8};
        List<Segment> segments = new ArrayList<>();

        Scene() {
            for (int kind = 0; kind < 9; kind++) {
                sounds[kind] = new int[] {3, 4, 1, 1};
            }
        }

        Scene copy() {
            Scene other = new Scene();
            other.mouths = new ArrayList<>(mouths);
            other.numbers = numbers.clone();
            for (int kind = 0; kind < 9; kind++) {
                other.sounds[kind] = sounds[kind].clone();
            }
            for (Segment segment : segments) {
                Segment same = new Segment(segment.kind, segment.frames.size());
                for (int i = 0; i < segment.frames.size(); i++) {
                    same.frames.get(i).pin = segment.frames.get(i).pin;
                    same.frames.get(i).drawn = segment.frames.get(i).drawn;
                }
                other.segments.add(same);
            }
            return other;
        }

        List<Frame> frames() {
            List<Frame> all = new ArrayList<>();
            for (Segment segment : segments) {
                all.addAll(segment.frames);
            }
            return all;
        }

        List<Segment> owners() {
            List<Segment> all = new ArrayList<>();
            for (Segment segment : segments) {
                for (int i = 0; i < segment.frames.size(); i++) {
                    all.add(segment);
                }
            }
            return all;
        }

        int wrong(int frame, int mouth) {
            Mouth m = mouths.get(mouth);
            int kind = owners().get(frame).kind;
            if (kind == 9) {
                return m.opening < numbers[2] ? 9 * (numbers[2] - m.opening) : 0;
            }
            int[] sound = sounds[kind];
            return sound[2] * (Math.abs(m.opening - sound[0]) + Math.abs(m.width - sound[1]));
        }

        /** For each frame the air behind it, or -1 for a gasp. */
        int[] airs() {
            List<Segment> owners = owners();
            int[] airs = new int[owners.size()];
            int air = numbers[3];
            for (int f = 0; f < airs.length; f++) {
                int kind = owners.get(f).kind;
                if (kind == 9) {
                    air = Math.min(numbers[3], air + numbers[4]);
                    airs[f] = air;
                } else if (air < sounds[kind][3]) {
                    air = 0;
                    airs[f] = -1;
                } else {
                    air -= sounds[kind][3];
                    airs[f] = air;
                }
            }
            return airs;
        }

        Plan best() {
            List<Frame> frames = frames();
            int count = frames.size();
            if (count == 0) {
                return new Plan(0, "");
            }
            int[][] costs = new int[count][mouths.size()];
            for (int f = 0; f < count; f++) {
                for (int m = 0; m < mouths.size(); m++) {
                    int pin = frames.get(f).pin;
                    costs[f][m] = pin == NONE || pin == m ? wrong(f, m) : -1;
                }
            }
            Plan[][] from = new Plan[count][mouths.size()];
            for (int f = count - 1; f >= 0; f--) {
                for (int m = 0; m < mouths.size(); m++) {
                    from[f][m] = bestRun(costs, from, f, m);
                }
            }
            Plan best = null;
            for (Plan plan : from[0]) {
                best = plan != null && plan.isBetterThan(best) ? plan : best;
            }
            return best;
        }

        private Plan bestRun(int[][] costs, Plan[][] from, int f, int m) {
            Plan best = null;
            StringBuilder run = new StringBuilder();
            int sum = 0;
            for (int end = f + 1; end <= costs.length; end++) {
                if (costs[end - 1][m] < 0) {
                    break;
                }
                sum += costs[end - 1][m];
                run.append((char) ('0' + m));
                if (end == costs.length) {
                    Plan plan = new Plan(sum, run.toString());
                    best = plan.isBetterThan(best) ? plan : best;
                } else if (end - f >= numbers[1]) {
                    for (int next = 0; next < mouths.size(); next++) {
                        Plan rest = from[end][next];
                        if (next == m || rest == null || mouths.get(m).away(mouths.get(next)) > numbers[0]
                                || best != null && sum + rest.sum > best.sum) {
                            continue;
                        }
                        Plan plan = new Plan(sum + rest.sum, run + rest.mouths);
                        best = plan.isBetterThan(best) ? plan : best;
                    }
                }
            }
            return best;
        }

        /** Reads "a3!0" and the like; the answer is that of load(). */
        int read(String text) {
            int at = 0;
            int items = 0;
            while (true) {
                at = next(text, at);
                if (at == text.length()) {
                    return items;
                }
                int kind = "abcdefghi.".indexOf(text.charAt(at));
                if (kind < 0 || segments.size() == 30) {
                    return -1000 - at;
                }
                at = next(text, at + 1);
                int number = number(text, at);
                if (number < 1 || number > 20 || frames().size() + number > 99) {
                    return -1000 - at;
                }
                Segment segment = new Segment(kind, number);
                segments.add(segment);
                items++;
                at = next(text, end(text, at));
                if (at < text.length() && text.charAt(at) == '!') {
                    at = next(text, at + 1);
                    number = number(text, at);
                    if (number < 0 || number >= mouths.size()) {
                        return -1000 - at;
                    }
                    segment.frames.get(0).pin = number;
                    at = end(text, at);
                }
            }
        }

        private static int next(String text, int at) {
            while (at < text.length() && text.charAt(at) == ' ') {
                at++;
            }
            return at;
        }

        private static int end(String text, int at) {
            while (at < text.length() && "0123456789".indexOf(text.charAt(at)) >= 0) {
                at++;
            }
            return at;
        }

        private static int number(String text, int at) {
            String digits = text.substring(at, end(text, at));
            boolean isGood = digits.equals("0") || digits.matches("[1-9][0-9]{0,3}");
            return isGood ? Integer.parseInt(digits) : -1;
        }
    }

    private static final class Whole {
        Scene now = new Scene();
        Scene[] kept = new Scene[2];

        Whole copy() {
            Whole other = new Whole();
            other.now = now.copy();
            other.kept[0] = kept[0] == null ? null : kept[0].copy();
            other.kept[1] = kept[1] == null ? null : kept[1].copy();
            return other;
        }
    }

    private static final class Model {
        Whole state = new Whole();
        final List<Whole> history = new ArrayList<>();
        String text = "";

        int call(int which, int a, int b, int c) {
            if (which == 14) {
                if (history.isEmpty()) {
                    return STATE;
                }
                state = history.remove(history.size() - 1);
                return history.size();
            }
            if (which >= 18) {
                return look(which, a, b);
            }
            if (which == 15) {
                if (a < 1 || a > 255) {
                    return BAD;
                }
                if (text.length() == 120) {
                    return FULL;
                }
                text += (char) a;
                return text.length();
            }
            if (which == 16) {
                int length = text.length();
                text = "";
                return length;
            }
            Whole before = state.copy();
            int answer = act(which, a, b, c);
            boolean isError = answer < 0 && answer != NONE;
            if (isError) {
                state = before;
            } else {
                history.add(before);
                if (history.size() > 5) {
                    history.remove(0);
                }
            }
            return answer;
        }

        private static boolean in(int value, int low, int high) {
            return low <= value && value <= high;
        }

        private int act(int which, int a, int b, int c) {
            Scene now = state.now;
            List<Frame> frames = now.frames();
            int mouths = now.mouths.size();
            int segments = now.segments.size();
            switch (Calls.NAMES.get(which)) {
                case "addMouth":
                    if (!in(a, 0, 9) || !in(b, 0, 9)) {
                        return BAD;
                    }
                    now.mouths.add(new Mouth(a, b));
                    return mouths == 8 ? FULL : mouths;
                case "setMouth":
                    if (!in(a, 0, mouths - 1) || !in(b, 0, 9) || !in(c, 0, 9)) {
                        return BAD;
                    }
                    return now.mouths.set(a, new Mouth(b, c)).away(b, c);
                case "setSound": {
                    if (!in(a, 0, 8) || !in(b, 0, 3) || !in(c, 0, b == 3 ? 3 : 9)) {
                        return BAD;
                    }
                    int previous = now.sounds[a][b];
                    now.sounds[a][b] = c;
                    return previous;
                }
                case "setNumber": {
                    if (!in(a, 0, 4) || !in(b, a == 2 ? 0 : 1, new int[] {9, 3, 9, 99, 20}[a])) {
                        return BAD;
                    }
                    int previous = now.numbers[a];
                    now.numbers[a] = b;
                    return previous;
                }
                case "insert":
                    if (!in(a, 0, segments) || !in(b, 0, 9) || !in(c, 1, 20)) {
                        return BAD;
                    }
                    now.segments.add(a, new Segment(b, c));
                    return segments == 30 || frames.size() + c > 99 ? FULL : frames.size() + c;
                case "remove":
                    if (!in(a, 0, segments - 1)) {
                        return BAD;
                    }
                    now.segments.remove(a);
                    return now.frames().size();
                case "stretch": {
                    if (!in(a, 0, segments - 1) || !in(b, 1, 20)) {
                        return BAD;
                    }
                    int previous = now.segments.get(a).frames.size();
                    now.segments.get(a).lengthen(b);
                    return now.frames().size() > 99 ? FULL : previous;
                }
                case "pin": {
                    if (!in(a, 0, frames.size() - 1) || !in(b, -1, mouths - 1)) {
                        return BAD;
                    }
                    int previous = frames.get(a).pin;
                    frames.get(a).pin = b < 0 ? NONE : b;
                    return previous;
                }
                case "draw": {
                    if (!in(a, 0, frames.size() - 1) || !in(b, -1, mouths - 1)) {
                        return BAD;
                    }
                    int previous = frames.get(a).drawn;
                    frames.get(a).drawn = b < 0 ? NONE : b;
                    return previous;
                }
                case "between":
                    return between(now, frames, a, b);
                case "finish": {
                    Plan plan = now.best();
                    if (plan == null) {
                        return STATE;
                    }
                    for (int f = 0; f < frames.size(); f++) {
                        frames.get(f).drawn = plan.mouths.charAt(f) - '0';
                    }
                    return plan.sum;
                }
                case "breathe":
                    return breathe(now, a);
                case "take":
                    if (!in(a, 0, 1)) {
                        return BAD;
                    }
                    state.kept[a] = now.copy();
                    return frames.size();
                case "restore":
                    if (!in(a, 0, 1)) {
                        return BAD;
                    }
                    if (state.kept[a] == null) {
                        return STATE;
                    }
                    state.now = state.kept[a].copy();
                    return state.now.frames().size();
                default: {
                    int answer = now.read(text);
                    text = answer < 0 ? text : "";
                    return answer;
                }
            }
        }

        private static int between(Scene now, List<Frame> frames, int first, int last) {
            if (first < 0 || last >= frames.size() || last <= first) {
                return BAD;
            }
            if (frames.get(first).drawn == NONE || frames.get(last).drawn == NONE) {
                return STATE;
            }
            Mouth a = now.mouths.get(frames.get(first).drawn);
            Mouth b = now.mouths.get(frames.get(last).drawn);
            Mouth ahead = a;
            for (int f = first + 1; f < last; f++) {
                int opening = a.opening + (b.opening - a.opening) * (f - first) / (last - first);
                int width = a.width + (b.width - a.width) * (f - first) / (last - first);
                int best = -1;
                for (int away = 0; away <= 9 && best < 0; away++) {
                    for (int m = now.mouths.size() - 1; m >= 0; m--) {
                        Mouth mouth = now.mouths.get(m);
                        if (mouth.away(opening, width) == away && mouth.away(ahead) <= now.numbers[0]) {
                            best = m;
                        }
                    }
                }
                frames.get(f).drawn = best;
                ahead = now.mouths.get(best);
            }
            return ahead.away(b);
        }

        private static int breathe(Scene now, int length) {
            if (!in(length, 1, 20)) {
                return BAD;
            }
            int breaths = 0;
            while (true) {
                int[] airs = now.airs();
                int gasp = 0;
                while (gasp < airs.length && airs[gasp] >= 0) {
                    gasp++;
                }
                if (gasp == airs.length) {
                    return breaths;
                }
                int place = now.segments.indexOf(now.owners().get(gasp));
                if (place == 0 || now.segments.get(place - 1).kind == 9) {
                    return STATE;
                }
                if (now.segments.size() == 30 || airs.length + length > 99) {
                    return FULL;
                }
                now.segments.add(place, new Segment(9, length));
                breaths++;
            }
        }

        private int look(int which, int a, int b) {
            Scene now = state.now;
            List<Frame> frames = now.frames();
            int mouths = now.mouths.size();
            switch (Calls.NAMES.get(which)) {
                case "count":
                    return count(now, frames, a);
                case "mouth":
                    if (!in(a, 0, mouths - 1) || !in(b, 0, 1)) {
                        return BAD;
                    }
                    return b == 0 ? now.mouths.get(a).opening : now.mouths.get(a).width;
                case "jump":
                    return in(a, 0, mouths - 1) && in(b, 0, mouths - 1)
                        ? now.mouths.get(a).away(now.mouths.get(b)) : BAD;
                case "sound":
                    return in(a, 0, 8) && in(b, 0, 3) ? now.sounds[a][b] : BAD;
                case "number":
                    return in(a, 0, 4) ? now.numbers[a] : BAD;
                case "segment": {
                    if (!in(a, 0, now.segments.size() - 1) || !in(b, 0, 2)) {
                        return BAD;
                    }
                    Segment segment = now.segments.get(a);
                    return b == 0 ? segment.kind : b == 1 ? segment.frames.size() : now.owners().indexOf(segment);
                }
                case "frame":
                    return frame(now, frames, a, b);
                case "wrongness":
                    return in(a, 0, frames.size() - 1) && in(b, 0, mouths - 1) ? now.wrong(a, b) : BAD;
                case "least":
                    return in(a, 0, 1) ? sumOf(now.best()) : BAD;
                case "leastWith": {
                    if (!in(a, 0, frames.size() - 1) || !in(b, 0, mouths - 1)) {
                        return BAD;
                    }
                    int pin = frames.get(a).pin;
                    frames.get(a).pin = b;
                    int sum = pin == NONE || pin == b ? sumOf(now.best()) : NONE;
                    frames.get(a).pin = pin;
                    return sum;
                }
                case "why":
                    return why(now, frames, a);
                case "fault":
                    return in(a, 0, 1) ? fault(now, frames, a) : BAD;
                case "drawnSum": {
                    int sum = 0;
                    for (int f = 0; f < frames.size(); f++) {
                        if (frames.get(f).drawn == NONE) {
                            return NONE;
                        }
                        sum += now.wrong(f, frames.get(f).drawn);
                    }
                    return sum;
                }
                case "speedFor": {
                    if (!in(a, 0, 99999)) {
                        return BAD;
                    }
                    Scene other = now.copy();
                    for (other.numbers[0] = 1; other.numbers[0] <= 9; other.numbers[0]++) {
                        Plan plan = other.best();
                        if (plan != null && plan.sum <= a) {
                            return other.numbers[0];
                        }
                    }
                    return NONE;
                }
                default: {
                    if (!in(a, 0, 9) || !in(b, 0, 9)) {
                        return BAD;
                    }
                    int best = 0;
                    for (int m = mouths - 1; m >= 0; m--) {
                        best = now.mouths.get(m).away(a, b) <= now.mouths.get(best).away(a, b) ? m : best;
                    }
                    return best;
                }
            }
        }

        private static int sumOf(Plan plan) {
            return plan == null ? NONE : plan.sum;
        }

        private int count(Scene now, List<Frame> frames, int what) {
            int found = 0;
            switch (what) {
                case 0: return now.mouths.size();
                case 1: return now.segments.size();
                case 2: return frames.size();
                case 3:
                    for (Frame frame : frames) {
                        found += frame.pin == NONE ? 0 : 1;
                    }
                    return found;
                case 4:
                    for (Frame frame : frames) {
                        found += frame.drawn == NONE ? 0 : 1;
                    }
                    return found;
                case 5:
                    for (int air : now.airs()) {
                        found += air < 0 ? 1 : 0;
                    }
                    return found;
                case 6: return (state.kept[0] == null ? 0 : 1) + (state.kept[1] == null ? 0 : 1);
                case 7: return history.size();
                case 8: return text.length();
                default: return BAD;
            }
        }

        private static int frame(Scene now, List<Frame> frames, int f, int what) {
            if (!in(f, 0, frames.size() - 1) || !in(what, 0, 6)) {
                return BAD;
            }
            switch (what) {
                case 0: return now.segments.indexOf(now.owners().get(f));
                case 1: return now.owners().get(f).kind;
                case 2: return frames.get(f).pin;
                case 3: return frames.get(f).drawn;
                case 4: return Math.max(0, now.airs()[f]);
                case 5: return now.airs()[f] < 0 ? 1 : 0;
                default: return now.best() == null ? NONE : now.best().mouths.charAt(f) - '0';
            }
        }

        private static int why(Scene now, List<Frame> frames, int f) {
            if (!in(f, 0, frames.size() - 1)) {
                return BAD;
            }
            Plan plan = now.best();
            if (plan == null) {
                return NONE;
            }
            int rival = 0;
            for (int m = now.mouths.size() - 1; m >= 0; m--) {
                rival = now.wrong(f, m) <= now.wrong(f, rival) ? m : rival;
            }
            Mouth rivalMouth = now.mouths.get(rival);
            String chosen = plan.mouths;
            if (now.wrong(f, chosen.charAt(f) - '0') <= now.wrong(f, rival)) {
                return 0;
            }
            if (frames.get(f).pin != NONE) {
                return 1;
            }
            if (f > 0 && now.mouths.get(chosen.charAt(f - 1) - '0').away(rivalMouth) > now.numbers[0]) {
                return 2;
            }
            boolean isLast = f == frames.size() - 1;
            return !isLast && now.mouths.get(chosen.charAt(f + 1) - '0').away(rivalMouth) > now.numbers[0] ? 3 : 4;
        }

        private static int fault(Scene now, List<Frame> frames, int what) {
            for (int f = 0; f < frames.size(); f++) {
                int reason = 0;
                Frame frame = frames.get(f);
                if (frame.drawn == NONE) {
                    reason = 1;
                } else if (frame.pin != NONE && frame.pin != frame.drawn) {
                    reason = 2;
                } else if (f > 0) {
                    int ahead = frames.get(f - 1).drawn;
                    int start = f - 1;
                    while (start > 0 && frames.get(start - 1).drawn == ahead) {
                        start--;
                    }
                    if (now.mouths.get(ahead).away(now.mouths.get(frame.drawn)) > now.numbers[0]) {
                        reason = 3;
                    } else if (ahead != frame.drawn && f - start < now.numbers[1]) {
                        reason = 4;
                    }
                }
                if (reason > 0) {
                    return what == 0 ? f : reason;
                }
            }
            return NONE;
        }
    }
}
