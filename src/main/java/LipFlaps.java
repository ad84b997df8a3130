/** Lip flaps for spoken sounds: mouths, sounds and breaths over frames, and plans of least wrongness. */
public final class LipFlaps {
    public static final int INVALID_ARGUMENT = -1;
    public static final int ILLEGAL_STATE = -2;
    public static final int CAPACITY_EXCEEDED = -3;
    public static final int NONE = -99;

    private static final int MAX_MOUTHS = 8;
    private static final int MAX_SEGMENTS = 30;
    private static final int MAX_FRAMES = 99;
    private static final int MAX_LENGTH = 20;
    private static final int MAX_TEXT = 120;
    private static final int MAX_HISTORY = 5;
    private static final int MAX_HOLD = 3;
    private static final int MAX_LIMIT = 99999;
    private static final int SLOTS = 2;
    private static final int KINDS = 9;
    private static final int BREATH = 9;
    private static final int NO_ONE = -1;
    private static final int BREATH_WEIGHT = 9;
    private static final int TEXT_ERROR = -1000;

    private static final int SPEED = 0;
    private static final int HOLD = 1;
    private static final int GAPE = 2;
    private static final int CAPACITY = 3;
    private static final int GAIN = 4;
    private static final int NUMBERS = 5;
    private static final int[] NUMBER_LOW = {1, 1, 0, 1, 1};
    private static final int[] NUMBER_HIGH = {9, 3, 9, 99, 20};
    private static final int[] NUMBER_FIRST = {3, 1, 5, 40, 8};

    private static final int WANTED_OPENING = 0;
    private static final int WANTED_WIDTH = 1;
    private static final int WEIGHT = 2;
    private static final int USE = 3;
    private static final int SOUND_NUMBERS = 4;
    private static final int[] SOUND_HIGH = {9, 9, 9, 3};
    private static final int[] SOUND_FIRST = {3, 4, 1, 1};

    private final State now;
    private final State[] history;
    private int historyCount;
    // Calls that may fail midway work on this one, so that an error leaves all as it was.
    private final Scene trial;
    private final Air air;
    private final Planner planner;
    private final Reader reader;
    private final int[] text;
    private int textLength;

    public LipFlaps() {
        now = new State();
        history = new State[MAX_HISTORY];
        for (int i = 0; i < MAX_HISTORY; i++) {
            history[i] = new State();
        }
        historyCount = 0;
        trial = new Scene();
        air = new Air();
        planner = new Planner();
        reader = new Reader();
        text = new int[MAX_TEXT];
        textLength = 0;
    }

    // ---- mouths, sounds, settings

    public int addMouth(int opening, int width) {
        Scene scene = now.scene;
        if (isOutside(opening, 0, 9) || isOutside(width, 0, 9)) {
            return INVALID_ARGUMENT;
        }
        if (scene.mouths >= MAX_MOUTHS) {
            return CAPACITY_EXCEEDED;
        }
        recordState();
        scene.openings[scene.mouths] = opening;
        scene.widths[scene.mouths] = width;
        scene.mouths++;
        return scene.mouths - 1;
    }

    public int setMouth(int mouth, int opening, int width) {
        Scene scene = now.scene;
        if (!scene.hasMouth(mouth) || isOutside(opening, 0, 9) || isOutside(width, 0, 9)) {
            return INVALID_ARGUMENT;
        }
        recordState();
        int jumped = scene.distanceOf(mouth, opening, width);
        scene.openings[mouth] = opening;
        scene.widths[mouth] = width;
        return jumped;
    }

    public int setSound(int kind, int what, int value) {
        if (isOutside(kind, 0, KINDS - 1) || isOutside(what, 0, SOUND_NUMBERS - 1)
                || isOutside(value, 0, SOUND_HIGH[what])) {
            return INVALID_ARGUMENT;
        }
        recordState();
        int place = kind * SOUND_NUMBERS + what;
        int previous = now.scene.sounds[place];
        now.scene.sounds[place] = value;
        return previous;
    }

    public int setNumber(int what, int value) {
        if (isOutside(what, 0, NUMBERS - 1) || isOutside(value, NUMBER_LOW[what], NUMBER_HIGH[what])) {
            return INVALID_ARGUMENT;
        }
        recordState();
        int previous = now.scene.numbers[what];
        now.scene.numbers[what] = value;
        return previous;
    }

    // ---- segments and frames

    public int insert(int place, int kind, int frames) {
        Scene scene = now.scene;
        if (isOutside(place, 0, scene.segments) || isOutside(kind, 0, BREATH)
                || isOutside(frames, 1, MAX_LENGTH)) {
            return INVALID_ARGUMENT;
        }
        if (!scene.hasRoomFor(frames)) {
            return CAPACITY_EXCEEDED;
        }
        recordState();
        scene.openSegment(place, kind, frames);
        return scene.frames;
    }

    public int remove(int segment) {
        Scene scene = now.scene;
        if (!scene.hasSegment(segment)) {
            return INVALID_ARGUMENT;
        }
        recordState();
        scene.closeSegment(segment);
        return scene.frames;
    }

    public int stretch(int segment, int frames) {
        Scene scene = now.scene;
        if (!scene.hasSegment(segment) || isOutside(frames, 1, MAX_LENGTH)) {
            return INVALID_ARGUMENT;
        }
        int previous = scene.lengths[segment];
        if (scene.frames - previous + frames > MAX_FRAMES) {
            return CAPACITY_EXCEEDED;
        }
        recordState();
        int first = scene.firstFrameOf(segment);
        if (frames < previous) {
            scene.closeFrames(first + frames, previous - frames);
        } else {
            scene.openFrames(first + previous, frames - previous);
        }
        scene.lengths[segment] = frames;
        return previous;
    }

    public int pin(int frame, int mouth) {
        Scene scene = now.scene;
        if (!scene.hasFrame(frame) || !(mouth == NO_ONE || scene.hasMouth(mouth))) {
            return INVALID_ARGUMENT;
        }
        recordState();
        int previous = scene.pinned[frame];
        scene.pinned[frame] = mouth == NO_ONE ? NONE : mouth;
        return previous;
    }

    public int draw(int frame, int mouth) {
        Scene scene = now.scene;
        if (!scene.hasFrame(frame) || !(mouth == NO_ONE || scene.hasMouth(mouth))) {
            return INVALID_ARGUMENT;
        }
        recordState();
        int previous = scene.drawn[frame];
        scene.drawn[frame] = mouth == NO_ONE ? NONE : mouth;
        return previous;
    }

    public int between(int first, int last) {
        Scene scene = now.scene;
        if (!scene.hasFrame(first) || !scene.hasFrame(last) || last <= first) {
            return INVALID_ARGUMENT;
        }
        int start = scene.drawn[first];
        int end = scene.drawn[last];
        if (!scene.hasMouth(start) || !scene.hasMouth(end)) {
            return ILLEGAL_STATE;
        }
        recordState();
        int ahead = start;
        for (int f = first + 1; f < last; f++) {
            int opening = partWay(scene.openings[start], scene.openings[end], f - first, last - first);
            int width = partWay(scene.widths[start], scene.widths[end], f - first, last - first);
            ahead = scene.nearestWithin(ahead, opening, width);
            scene.drawn[f] = ahead;
        }
        return scene.jumpOf(ahead, end);
    }

    public int finish() {
        planner.prepare(now.scene);
        int sum = planner.leastFromEnd();
        if (sum == NONE) {
            return ILLEGAL_STATE;
        }
        recordState();
        planner.choose();
        for (int f = 0; f < now.scene.frames; f++) {
            now.scene.drawn[f] = planner.plan[f];
        }
        return sum;
    }

    public int breathe(int frames) {
        if (isOutside(frames, 1, MAX_LENGTH)) {
            return INVALID_ARGUMENT;
        }
        trial.copyFrom(now.scene);
        int breaths = 0;
        for (; breaths <= MAX_SEGMENTS; breaths++) {
            air.follow(trial);
            int place = air.gaspSegment;
            if (place == NO_ONE) {
                break;
            }
            if (place == 0 || trial.kinds[place - 1] == BREATH) {
                return ILLEGAL_STATE;
            }
            if (!trial.hasRoomFor(frames)) {
                return CAPACITY_EXCEEDED;
            }
            trial.openSegment(place, BREATH, frames);
        }
        recordState();
        now.scene.copyFrom(trial);
        return breaths;
    }

    // ---- snapshots

    public int take(int slot) {
        if (isOutside(slot, 0, SLOTS - 1)) {
            return INVALID_ARGUMENT;
        }
        recordState();
        now.slots[slot].copyFrom(now.scene);
        now.taken[slot] = true;
        return now.scene.frames;
    }

    public int restore(int slot) {
        if (isOutside(slot, 0, SLOTS - 1)) {
            return INVALID_ARGUMENT;
        }
        if (!now.taken[slot]) {
            return ILLEGAL_STATE;
        }
        recordState();
        now.scene.copyFrom(now.slots[slot]);
        return now.scene.frames;
    }

    public int undo() {
        if (historyCount <= 0) {
            return ILLEGAL_STATE;
        }
        historyCount--;
        now.copyFrom(history[historyCount]);
        return historyCount;
    }

    // ---- text

    public int append(int character) {
        if (isOutside(character, 1, 255)) {
            return INVALID_ARGUMENT;
        }
        if (textLength >= MAX_TEXT) {
            return CAPACITY_EXCEEDED;
        }
        text[textLength] = character;
        textLength++;
        return textLength;
    }

    public int clearText() {
        int previous = textLength;
        textLength = 0;
        return previous;
    }

    public int load() {
        trial.copyFrom(now.scene);
        int items = reader.readItems(text, textLength, trial);
        if (reader.error != NO_ONE) {
            return TEXT_ERROR - reader.error;
        }
        recordState();
        now.scene.copyFrom(trial);
        textLength = 0;
        return items;
    }

    // ---- looking

    public int count(int what) {
        Scene scene = now.scene;
        switch (what) {
            case 0:
                return scene.mouths;
            case 1:
                return scene.segments;
            case 2:
                return scene.frames;
            case 3:
                return scene.countSet(scene.pinned);
            case 4:
                return scene.countSet(scene.drawn);
            case 5:
                air.follow(scene);
                return air.gaspCount;
            case 6:
                return now.countTaken();
            case 7:
                return historyCount;
            case 8:
                return textLength;
            default:
                return INVALID_ARGUMENT;
        }
    }

    public int mouth(int mouth, int what) {
        if (!now.scene.hasMouth(mouth) || isOutside(what, 0, 1)) {
            return INVALID_ARGUMENT;
        }
        return what == 0 ? now.scene.openings[mouth] : now.scene.widths[mouth];
    }

    public int jump(int a, int b) {
        if (!now.scene.hasMouth(a) || !now.scene.hasMouth(b)) {
            return INVALID_ARGUMENT;
        }
        return now.scene.jumpOf(a, b);
    }

    public int sound(int kind, int what) {
        if (isOutside(kind, 0, KINDS - 1) || isOutside(what, 0, SOUND_NUMBERS - 1)) {
            return INVALID_ARGUMENT;
        }
        return now.scene.sounds[kind * SOUND_NUMBERS + what];
    }

    public int number(int what) {
        if (isOutside(what, 0, NUMBERS - 1)) {
            return INVALID_ARGUMENT;
        }
        return now.scene.numbers[what];
    }

    public int segment(int segment, int what) {
        Scene scene = now.scene;
        if (!scene.hasSegment(segment)) {
            return INVALID_ARGUMENT;
        }
        switch (what) {
            case 0:
                return scene.kinds[segment];
            case 1:
                return scene.lengths[segment];
            case 2:
                return scene.firstFrameOf(segment);
            default:
                return INVALID_ARGUMENT;
        }
    }

    public int frame(int frame, int what) {
        Scene scene = now.scene;
        if (!scene.hasFrame(frame)) {
            return INVALID_ARGUMENT;
        }
        switch (what) {
            case 0:
                return scene.segmentAt(frame);
            case 1:
                return scene.kindAt(frame);
            case 2:
                return scene.pinned[frame];
            case 3:
                return scene.drawn[frame];
            case 4:
                air.follow(scene);
                return air.behind[frame];
            case 5:
                air.follow(scene);
                return air.gasps[frame] ? 1 : 0;
            case 6:
                planner.prepare(scene);
                return planner.choose() ? planner.plan[frame] : NONE;
            default:
                return INVALID_ARGUMENT;
        }
    }

    public int wrongness(int frame, int mouth) {
        if (!now.scene.hasFrame(frame) || !now.scene.hasMouth(mouth)) {
            return INVALID_ARGUMENT;
        }
        return now.scene.wrongOf(now.scene.kindAt(frame), mouth);
    }

    // ---- reasons, and what would be, which changes nothing

    public int least(int way) {
        if (isOutside(way, 0, 1)) {
            return INVALID_ARGUMENT;
        }
        planner.prepare(now.scene);
        return way == 0 ? planner.leastFromEnd() : planner.leastFromStart();
    }

    public int leastWith(int frame, int mouth) {
        if (!now.scene.hasFrame(frame) || !now.scene.hasMouth(mouth)) {
            return INVALID_ARGUMENT;
        }
        planner.prepare(now.scene);
        planner.barOthers(frame, mouth);
        return planner.leastFromEnd();
    }

    public int why(int frame) {
        Scene scene = now.scene;
        if (!scene.hasFrame(frame)) {
            return INVALID_ARGUMENT;
        }
        planner.prepare(scene);
        if (!planner.choose()) {
            return NONE;
        }
        int kind = scene.kindAt(frame);
        int rival = scene.leastWrongFor(kind);
        int speed = scene.numbers[SPEED];
        if (scene.wrongOf(kind, planner.plan[frame]) == scene.wrongOf(kind, rival)) {
            return 0;
        }
        if (scene.pinned[frame] != NONE) {
            return 1;
        }
        if (frame > 0 && scene.jumpOf(planner.plan[frame - 1], rival) > speed) {
            return 2;
        }
        if (frame + 1 < scene.frames && scene.jumpOf(rival, planner.plan[frame + 1]) > speed) {
            return 3;
        }
        return 4;
    }

    public int fault(int what) {
        if (isOutside(what, 0, 1)) {
            return INVALID_ARGUMENT;
        }
        Scene scene = now.scene;
        int run = 0;
        for (int f = 0; f < scene.frames; f++) {
            int reason = faultAt(scene, f, run);
            if (reason != 0) {
                return what == 0 ? f : reason;
            }
            run = f > 0 && scene.drawn[f] == scene.drawn[f - 1] ? run + 1 : 1;
        }
        return NONE;
    }

    public int drawnSum() {
        Scene scene = now.scene;
        int sum = 0;
        for (int f = 0; f < scene.frames; f++) {
            if (!scene.hasMouth(scene.drawn[f])) {
                return NONE;
            }
            sum += scene.wrongOf(scene.kindAt(f), scene.drawn[f]);
        }
        return sum;
    }

    public int speedFor(int limit) {
        if (isOutside(limit, 0, MAX_LIMIT)) {
            return INVALID_ARGUMENT;
        }
        planner.prepare(now.scene);
        for (int speed = NUMBER_LOW[SPEED]; speed <= NUMBER_HIGH[SPEED]; speed++) {
            planner.useSpeed(now.scene, speed);
            int sum = planner.leastFromStart();
            if (sum != NONE && sum <= limit) {
                return speed;
            }
        }
        return NONE;
    }

    public int nearest(int opening, int width) {
        if (isOutside(opening, 0, 9) || isOutside(width, 0, 9)) {
            return INVALID_ARGUMENT;
        }
        return now.scene.nearestOfAll(opening, width);
    }

    private static boolean isOutside(int value, int low, int high) {
        return value < low || value > high;
    }

    /** Keeps the state before an action; when there is no room the oldest one's rows are used again. */
    private void recordState() {
        if (historyCount >= MAX_HISTORY) {
            State oldest = history[0];
            for (int i = 1; i < MAX_HISTORY; i++) {
                history[i - 1] = history[i];
            }
            history[MAX_HISTORY - 1] = oldest;
            historyCount = MAX_HISTORY - 1;
        }
        history[historyCount].copyFrom(now);
        historyCount++;
    }

    private static int partWay(int a, int b, int done, int all) {
        return all > 0 ? a + (b - a) * done / all : a;
    }

    /** The reason of a fault in a frame, 0 without one; the frames ahead have none, and end in a run. */
    private static int faultAt(Scene scene, int frame, int run) {
        int drawn = scene.drawn[frame];
        if (!scene.hasMouth(drawn)) {
            return 1;
        }
        if (scene.pinned[frame] != NONE && scene.pinned[frame] != drawn) {
            return 2;
        }
        if (frame == 0) {
            return 0;
        }
        int ahead = scene.drawn[frame - 1];
        if (scene.jumpOf(ahead, drawn) > scene.numbers[SPEED]) {
            return 3;
        }
        return ahead != drawn && run < scene.numbers[HOLD] ? 4 : 0;
    }

    /** What a snapshot keeps. The counts never exceed the rows, and the lengths add up to the frames. */
    private static final class Scene {
        int mouths;
        final int[] openings;
        final int[] widths;
        final int[] sounds;
        final int[] numbers;
        int segments;
        final int[] kinds;
        final int[] lengths;
        int frames;
        // A mouth of this scene, or NONE.
        final int[] pinned;
        final int[] drawn;

        Scene() {
            openings = new int[MAX_MOUTHS];
            widths = new int[MAX_MOUTHS];
            sounds = new int[KINDS * SOUND_NUMBERS];
            numbers = new int[NUMBERS];
            kinds = new int[MAX_SEGMENTS];
            lengths = new int[MAX_SEGMENTS];
            pinned = new int[MAX_FRAMES];
            drawn = new int[MAX_FRAMES];
            mouths = 1;
            widths[0] = 4;
            for (int i = 0; i < KINDS * SOUND_NUMBERS; i++) {
                sounds[i] = SOUND_FIRST[i % SOUND_NUMBERS];
            }
            for (int i = 0; i < NUMBERS; i++) {
                numbers[i] = NUMBER_FIRST[i];
            }
        }

        void copyFrom(Scene other) {
            mouths = other.mouths;
            segments = other.segments;
            frames = other.frames;
            System.arraycopy(other.openings, 0, openings, 0, MAX_MOUTHS);
            System.arraycopy(other.widths, 0, widths, 0, MAX_MOUTHS);
            System.arraycopy(other.sounds, 0, sounds, 0, KINDS * SOUND_NUMBERS);
            System.arraycopy(other.numbers, 0, numbers, 0, NUMBERS);
            System.arraycopy(other.kinds, 0, kinds, 0, MAX_SEGMENTS);
            System.arraycopy(other.lengths, 0, lengths, 0, MAX_SEGMENTS);
            System.arraycopy(other.pinned, 0, pinned, 0, MAX_FRAMES);
            System.arraycopy(other.drawn, 0, drawn, 0, MAX_FRAMES);
        }

        boolean hasMouth(int m) {
            return m >= 0 && m < mouths;
        }

        boolean hasSegment(int s) {
            return s >= 0 && s < segments;
        }

        boolean hasFrame(int f) {
            return f >= 0 && f < frames;
        }

        boolean hasRoomFor(int more) {
            return segments < MAX_SEGMENTS && frames + more <= MAX_FRAMES;
        }

        int distanceOf(int m, int opening, int width) {
            return Math.max(Math.abs(openings[m] - opening), Math.abs(widths[m] - width));
        }

        int jumpOf(int a, int b) {
            return distanceOf(a, openings[b], widths[b]);
        }

        int nearestOfAll(int opening, int width) {
            int best = 0;
            for (int m = 1; m < mouths; m++) {
                if (distanceOf(m, opening, width) < distanceOf(best, opening, width)) {
                    best = m;
                }
            }
            return best;
        }

        int nearestWithin(int ahead, int opening, int width) {
            int best = NO_ONE;
            for (int m = 0; m < mouths; m++) {
                if (jumpOf(ahead, m) <= numbers[SPEED]
                        && (best == NO_ONE || distanceOf(m, opening, width) < distanceOf(best, opening, width))) {
                    best = m;
                }
            }
            return best == NO_ONE ? ahead : best;
        }

        int wrongOf(int kind, int m) {
            if (kind == BREATH) {
                return BREATH_WEIGHT * Math.max(0, numbers[GAPE] - openings[m]);
            }
            int place = kind * SOUND_NUMBERS;
            return sounds[place + WEIGHT] * (Math.abs(openings[m] - sounds[place + WANTED_OPENING])
                    + Math.abs(widths[m] - sounds[place + WANTED_WIDTH]));
        }

        int leastWrongFor(int kind) {
            int best = 0;
            for (int m = 1; m < mouths; m++) {
                if (wrongOf(kind, m) < wrongOf(kind, best)) {
                    best = m;
                }
            }
            return best;
        }

        int countSet(int[] row) {
            int found = 0;
            for (int f = 0; f < frames; f++) {
                if (row[f] != NONE) {
                    found++;
                }
            }
            return found;
        }

        int firstFrameOf(int s) {
            int first = 0;
            for (int i = 0; i < s; i++) {
                first += lengths[i];
            }
            return first;
        }

        int segmentAt(int f) {
            int end = 0;
            for (int s = 0; s < segments; s++) {
                end += lengths[s];
                if (f < end) {
                    return s;
                }
            }
            return 0;
        }

        int kindAt(int f) {
            return kinds[segmentAt(f)];
        }

        /** Only where there is room for it. */
        void openSegment(int place, int kind, int more) {
            openFrames(firstFrameOf(place), more);
            for (int s = segments; s > place; s--) {
                kinds[s] = kinds[s - 1];
                lengths[s] = lengths[s - 1];
            }
            kinds[place] = kind;
            lengths[place] = more;
            segments++;
        }

        void closeSegment(int s) {
            closeFrames(firstFrameOf(s), lengths[s]);
            for (int i = s + 1; i < segments; i++) {
                kinds[i - 1] = kinds[i];
                lengths[i - 1] = lengths[i];
            }
            segments--;
        }

        /** Only where there is room for them. */
        void openFrames(int at, int more) {
            for (int f = frames - 1; f >= at; f--) {
                pinned[f + more] = pinned[f];
                drawn[f + more] = drawn[f];
            }
            for (int f = at; f < at + more; f++) {
                pinned[f] = NONE;
                drawn[f] = NONE;
            }
            frames += more;
        }

        void closeFrames(int at, int fewer) {
            for (int f = at + fewer; f < frames; f++) {
                pinned[f - fewer] = pinned[f];
                drawn[f - fewer] = drawn[f];
            }
            frames -= fewer;
        }
    }

    /** What the history keeps: a scene and the snapshots. */
    private static final class State {
        final Scene scene;
        final Scene[] slots;
        final boolean[] taken;

        State() {
            scene = new Scene();
            slots = new Scene[SLOTS];
            for (int i = 0; i < SLOTS; i++) {
                slots[i] = new Scene();
            }
            taken = new boolean[SLOTS];
        }

        void copyFrom(State other) {
            scene.copyFrom(other.scene);
            for (int i = 0; i < SLOTS; i++) {
                taken[i] = other.taken[i];
                if (taken[i]) {
                    slots[i].copyFrom(other.slots[i]);
                }
            }
        }

        int countTaken() {
            int found = 0;
            for (int i = 0; i < SLOTS; i++) {
                if (taken[i]) {
                    found++;
                }
            }
            return found;
        }
    }

    /** The air behind each frame, and the gasps. */
    private static final class Air {
        final int[] behind;
        final boolean[] gasps;
        int gaspCount;
        int gaspSegment;

        Air() {
            behind = new int[MAX_FRAMES];
            gasps = new boolean[MAX_FRAMES];
        }

        void follow(Scene scene) {
            int left = scene.numbers[CAPACITY];
            int f = 0;
            gaspCount = 0;
            gaspSegment = NO_ONE;
            for (int s = 0; s < scene.segments; s++) {
                int end = Math.min(f + scene.lengths[s], scene.frames);
                for (; f < end; f++) {
                    int change = changeIn(scene, scene.kinds[s]);
                    gasps[f] = left + change < 0;
                    if (gasps[f]) {
                        gaspSegment = gaspCount == 0 ? s : gaspSegment;
                        gaspCount++;
                    }
                    left = Math.min(Math.max(left + change, 0), scene.numbers[CAPACITY]);
                    behind[f] = left;
                }
            }
        }

        private static int changeIn(Scene scene, int kind) {
            return kind == BREATH ? scene.numbers[GAIN] : -scene.sounds[kind * SOUND_NUMBERS + USE];
        }
    }

    /** Finds plans of least wrongness. A run counts its frames up to the hold, from 0 for the first one. */
    private static final class Planner {
        private static final int BARRED = 1000000;

        final int[] plan;
        private final int[] costs;
        private final boolean[] close;
        // The least sum from a frame on, by frame, mouth and run.
        private final int[] rest;
        // The least sums up to a frame, and up to the one ahead of it, by mouth and run.
        private final int[] here;
        private final int[] ahead;
        private int frames;
        private int mouths;
        private int hold;

        Planner() {
            plan = new int[MAX_FRAMES];
            costs = new int[MAX_FRAMES * MAX_MOUTHS];
            close = new boolean[MAX_MOUTHS * MAX_MOUTHS];
            rest = new int[MAX_FRAMES * MAX_MOUTHS * MAX_HOLD];
            here = new int[MAX_MOUTHS * MAX_HOLD];
            ahead = new int[MAX_MOUTHS * MAX_HOLD];
        }

        void prepare(Scene scene) {
            frames = scene.frames;
            mouths = scene.mouths;
            hold = scene.numbers[HOLD];
            useSpeed(scene, scene.numbers[SPEED]);
            int f = 0;
            for (int s = 0; s < scene.segments; s++) {
                int end = Math.min(f + scene.lengths[s], frames);
                for (; f < end; f++) {
                    fillCosts(scene, f, scene.kinds[s]);
                }
            }
        }

        private void fillCosts(Scene scene, int f, int kind) {
            for (int m = 0; m < mouths; m++) {
                costs[f * MAX_MOUTHS + m] = scene.wrongOf(kind, m);
            }
            if (scene.pinned[f] != NONE) {
                barOthers(f, scene.pinned[f]);
            }
        }

        void useSpeed(Scene scene, int speed) {
            for (int a = 0; a < mouths; a++) {
                for (int b = 0; b < mouths; b++) {
                    close[a * MAX_MOUTHS + b] = scene.jumpOf(a, b) <= speed;
                }
            }
        }

        void barOthers(int f, int mouth) {
            for (int m = 0; m < mouths; m++) {
                if (m != mouth) {
                    costs[f * MAX_MOUTHS + m] = BARRED;
                }
            }
        }

        int leastFromEnd() {
            if (frames == 0) {
                return 0;
            }
            for (int f = frames - 1; f >= 0; f--) {
                for (int m = 0; m < mouths; m++) {
                    fillRest(f, m);
                }
            }
            int least = BARRED;
            for (int m = 0; m < mouths; m++) {
                least = Math.min(least, rest[m * MAX_HOLD]);
            }
            return least < BARRED ? least : NONE;
        }

        private void fillRest(int f, int m) {
            int place = (f * MAX_MOUTHS + m) * MAX_HOLD;
            boolean isLast = f == frames - 1;
            for (int run = 0; run < hold; run++) {
                int next = isLast ? 0 : rest[place + MAX_MOUTHS * MAX_HOLD + longer(run)];
                if (!isLast && run == hold - 1) {
                    next = Math.min(next, leastOfLeaving(m, f + 1));
                }
                rest[place + run] = Math.min(BARRED, costs[f * MAX_MOUTHS + m] + next);
            }
        }

        private int leastOfLeaving(int m, int next) {
            int least = BARRED;
            for (int other = 0; other < mouths; other++) {
                if (other != m && close[m * MAX_MOUTHS + other]) {
                    least = Math.min(least, rest[(next * MAX_MOUTHS + other) * MAX_HOLD]);
                }
            }
            return least;
        }

        private int longer(int run) {
            return Math.min(run + 1, hold - 1);
        }

        int leastFromStart() {
            if (frames == 0) {
                return 0;
            }
            for (int f = 0; f < frames; f++) {
                System.arraycopy(here, 0, ahead, 0, MAX_MOUTHS * MAX_HOLD);
                for (int m = 0; m < mouths; m++) {
                    fillHere(f, m);
                }
            }
            int least = BARRED;
            for (int m = 0; m < mouths; m++) {
                for (int run = 0; run < hold; run++) {
                    least = Math.min(least, here[m * MAX_HOLD + run]);
                }
            }
            return least < BARRED ? least : NONE;
        }

        private void fillHere(int f, int m) {
            int place = m * MAX_HOLD;
            for (int run = 0; run < hold; run++) {
                here[place + run] = BARRED;
            }
            here[place] = f == 0 ? 0 : leastOfEntering(m);
            int stays = f == 0 ? 0 : hold;
            for (int run = 0; run < stays; run++) {
                here[place + longer(run)] = Math.min(here[place + longer(run)], ahead[place + run]);
            }
            for (int run = 0; run < hold; run++) {
                here[place + run] = Math.min(BARRED, here[place + run] + costs[f * MAX_MOUTHS + m]);
            }
        }

        private int leastOfEntering(int m) {
            int least = BARRED;
            for (int other = 0; other < mouths; other++) {
                if (other != m && close[other * MAX_MOUTHS + m]) {
                    least = Math.min(least, ahead[other * MAX_HOLD + hold - 1]);
                }
            }
            return least;
        }

        /** Fills in the best plan, if there is one. */
        boolean choose() {
            if (leastFromEnd() == NONE) {
                return false;
            }
            int run = 0;
            for (int f = 0; f < frames; f++) {
                plan[f] = f == 0 ? bestFirst() : bestNext(f, plan[f - 1], run);
                run = f > 0 && plan[f] == plan[f - 1] ? longer(run) : 0;
            }
            return true;
        }

        private int bestFirst() {
            int best = 0;
            for (int m = 1; m < mouths; m++) {
                if (rest[m * MAX_HOLD] < rest[best * MAX_HOLD]) {
                    best = m;
                }
            }
            return best;
        }

        private int bestNext(int f, int last, int run) {
            int best = last;
            int least = BARRED;
            for (int m = 0; m < mouths; m++) {
                int sum = BARRED;
                if (m == last) {
                    sum = rest[(f * MAX_MOUTHS + m) * MAX_HOLD + longer(run)];
                } else if (run == hold - 1 && close[last * MAX_MOUTHS + m]) {
                    sum = rest[(f * MAX_MOUTHS + m) * MAX_HOLD];
                }
                if (sum < least) {
                    least = sum;
                    best = m;
                }
            }
            return best;
        }
    }

    /** Reads segments from a text into a scene, up to the first error. */
    private static final class Reader {
        private static final int SPACE = 32;
        private static final int MARK = '!';
        private static final int TOO_GREAT = 1000;

        int error;
        private int[] text;
        private int length;
        private int at;

        Reader() {
            error = NO_ONE;
            text = new int[0];
        }

        int readItems(int[] characters, int characterCount, Scene scene) {
            text = characters;
            length = Math.min(characterCount, characters.length);
            at = 0;
            error = NO_ONE;
            int items = 0;
            skipSpaces();
            while (error == NO_ONE && at < length && items <= MAX_SEGMENTS) {
                readItem(scene);
                items++;
                skipSpaces();
            }
            return items;
        }

        private void readItem(Scene scene) {
            int kind = kindOf(text[at]);
            if (kind == NO_ONE || scene.segments >= MAX_SEGMENTS) {
                error = at;
                return;
            }
            at++;
            int first = scene.frames;
            int more = readNumber(1, Math.min(MAX_LENGTH, MAX_FRAMES - first));
            if (error != NO_ONE) {
                return;
            }
            scene.openSegment(scene.segments, kind, more);
            skipSpaces();
            if (at < length && text[at] == MARK) {
                at++;
                int mouth = readNumber(0, scene.mouths - 1);
                if (error == NO_ONE) {
                    scene.pinned[first] = mouth;
                }
            }
        }

        private int readNumber(int low, int high) {
            skipSpaces();
            int start = at;
            int value = 0;
            while (at < length && isDigit(text[at])) {
                value = Math.min(TOO_GREAT, value * 10 + text[at] - '0');
                at++;
            }
            boolean hasZeroAhead = at > start + 1 && text[start] == '0';
            if (at == start || hasZeroAhead || value < low || value > high) {
                error = start;
            }
            return value;
        }

        private void skipSpaces() {
            while (at < length && text[at] == SPACE) {
                at++;
            }
        }

        private static boolean isDigit(int character) {
            return character >= '0' && character <= '9';
        }

        private static int kindOf(int character) {
            if (character == '.') {
                return BREATH;
            }
            return character >= 'a' && character <= 'i' ? character - 'a' : NO_ONE;
        }
    }
}
