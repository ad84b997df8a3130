/** Each promise by itself: ordinary inputs, the edges that the document names, wrong inputs. */
public final class PromiseTest {
    private static final int BAD = LipFlaps.INVALID_ARGUMENT;
    private static final int STATE = LipFlaps.ILLEGAL_STATE;
    private static final int FULL = LipFlaps.CAPACITY_EXCEEDED;
    private static final int NONE = LipFlaps.NONE;
    private static final int[] FAR = {Integer.MIN_VALUE, -1000, -100, 1000, Integer.MAX_VALUE};

    private static int wrong = 0;

    public static void main(String[] args) {
        newObject();
        addMouth();
        setMouth();
        setSound();
        setNumber();
        insert();
        remove();
        stretch();
        pin();
        draw();
        between();
        finish();
        breathe();
        takeAndRestore();
        undo();
        appendAndClear();
        load();
        loadErrors();
        count();
        lookingAtMouths();
        soundAndNumber();
        segment();
        frame();
        air();
        wrongness();
        least();
        leastWith();
        why();
        whyOfSeveralRivals();
        whyAtTheEnd();
        fault();
        drawnSum();
        speedFor();
        nearest();
        errorsAreNoActions();
        atTheLimits();
        System.out.println(wrong == 0 ? "all promises hold" : wrong + " answers are wrong");
        if (wrong != 0) {
            System.exit(1);
        }
    }

    private static void due(String what, int got, int want) {
        if (got != want) {
            wrong++;
            System.out.println(what + " answered " + got + ", due is " + want);
        }
    }

    private static void newObject() {
        LipFlaps x = new LipFlaps();
        int[] counts = {1, 0, 0, 0, 0, 0, 0, 0, 0};
        for (int what = 0; what < counts.length; what++) {
            due("1: count " + what, x.count(what), counts[what]);
        }
        due("1: opening", x.mouth(0, 0), 0);
        due("1: width", x.mouth(0, 1), 4);
        int[] sounds = {3, 4, 1, 1};
        for (int kind = 0; kind < 9; kind++) {
            for (int what = 0; what < 4; what++) {
                due("1: sound", x.sound(kind, what), sounds[what]);
            }
        }
        int[] numbers = {3, 1, 5, 40, 8};
        for (int what = 0; what < 5; what++) {
            due("1: number", x.number(what), numbers[what]);
        }
        due("1: restore", x.restore(0), STATE);
        due("1: restore", x.restore(1), STATE);
        due("1: undo", x.undo(), STATE);
        due("1: clearText", x.clearText(), 0);
    }

    private static void addMouth() {
        LipFlaps x = new LipFlaps();
        for (int bad : new int[] {-1, 10, Integer.MIN_VALUE, Integer.MAX_VALUE}) {
            due("2: opening", x.addMouth(bad, 0), BAD);
            due("2: width", x.addMouth(0, bad), BAD);
        }
        due("2: count", x.count(0), 1);
        for (int m = 1; m < 8; m++) {
            due("2: add", x.addMouth(m == 7 ? 9 : m, m == 1 ? 0 : 9), m);
        }
        due("2: full", x.addMouth(0, 0), FULL);
        due("2: range first", x.addMouth(10, 0), BAD);
        due("2: mouths", x.count(0), 8);
        due("2: opening", x.mouth(7, 0), 9);
        due("2: width", x.mouth(1, 1), 0);
        due("2: history", x.count(7), 5);
        x.undo();
        due("2: undone", x.mouth(7, 0), BAD);
        due("2: again", x.addMouth(4, 5), 7);
        due("2: again", x.mouth(7, 0) * 10 + x.mouth(7, 1), 45);
    }

    private static void setMouth() {
        LipFlaps x = new LipFlaps();
        due("3: jump by the opening", x.setMouth(0, 9, 0), 9);
        due("3: jump by the width", x.setMouth(0, 7, 5), 5);
        due("3: same", x.setMouth(0, 7, 5), 0);
        due("3: numbers", x.mouth(0, 0) * 10 + x.mouth(0, 1), 75);
        due("3: no mouth", x.setMouth(1, 0, 0), BAD);
        due("3: no mouth", x.setMouth(-1, 0, 0), BAD);
        due("3: opening", x.setMouth(0, 10, 0), BAD);
        due("3: opening", x.setMouth(0, -1, 0), BAD);
        due("3: width", x.setMouth(0, 0, 10), BAD);
        due("3: width", x.setMouth(0, 0, -1), BAD);
        due("3: numbers stay", x.mouth(0, 0) * 10 + x.mouth(0, 1), 75);
        due("3: history", x.count(7), 3);
        due("3: greatest", x.setMouth(0, 9, 9), 4);
        x.undo();
        x.undo();
        x.undo();
        due("3: undone", x.mouth(0, 0) * 10 + x.mouth(0, 1), 90);
    }

    private static void setSound() {
        LipFlaps x = new LipFlaps();
        int[] before = {3, 4, 1, 1};
        int[] high = {9, 9, 9, 3};
        for (int what = 0; what < 4; what++) {
            due("4: previous", x.setSound(8, what, high[what]), before[what]);
            due("4: previous", x.setSound(8, what, 0), high[what]);
            due("4: now", x.sound(8, what), 0);
            due("4: other kind", x.sound(7, what), before[what]);
            due("4: above", x.setSound(8, what, high[what] + 1), BAD);
            due("4: below", x.setSound(8, what, -1), BAD);
            due("4: kept", x.sound(8, what), 0);
        }
        due("4: kind", x.setSound(9, 0, 1), BAD);
        due("4: kind", x.setSound(-1, 0, 1), BAD);
        due("4: what", x.setSound(0, 4, 1), BAD);
        due("4: what", x.setSound(0, -1, 1), BAD);
        x.undo();
        due("4: undone", x.sound(8, 3), 3);
    }

    private static void setNumber() {
        LipFlaps x = new LipFlaps();
        int[] before = {3, 1, 5, 40, 8};
        int[] low = {1, 1, 0, 1, 1};
        int[] high = {9, 3, 9, 99, 20};
        for (int what = 0; what < 5; what++) {
            due("5: previous", x.setNumber(what, high[what]), before[what]);
            due("5: previous", x.setNumber(what, low[what]), high[what]);
            due("5: above", x.setNumber(what, high[what] + 1), BAD);
            due("5: below", x.setNumber(what, low[what] - 1), BAD);
            due("5: now", x.number(what), low[what]);
        }
        due("5: what", x.setNumber(5, 1), BAD);
        due("5: what", x.setNumber(-1, 1), BAD);
        x.undo();
        due("5: undone", x.number(4), 20);
    }

    private static void insert() {
        LipFlaps x = new LipFlaps();
        due("6: place", x.insert(1, 0, 1), BAD);
        due("6: place", x.insert(-1, 0, 1), BAD);
        due("6: kind", x.insert(0, -1, 1), BAD);
        due("6: kind", x.insert(0, 10, 1), BAD);
        due("6: frames", x.insert(0, 0, 0), BAD);
        due("6: frames", x.insert(0, 0, 21), BAD);
        due("6: first", x.insert(0, 1, 3), 3);
        x.pin(0, 0);
        x.draw(2, 0);
        due("6: behind", x.insert(1, 9, 2), 5);
        due("6: ahead", x.insert(0, 2, 20), 25);
        due("6: amid", x.insert(2, 3, 1), 26);
        due("6: kinds", kinds(x), 2139);
        due("6: pin moves", x.frame(20, 2), 0);
        due("6: drawn moves", x.frame(22, 3), 0);
        due("6: new frames", x.frame(0, 2), NONE);
        due("6: new frames", x.frame(23, 3), NONE);
        due("6: pins", x.count(3), 1);
        due("6: drawn", x.count(4), 1);
        x.undo();
        due("6: undone", kinds(x), 219);

        LipFlaps many = new LipFlaps();
        for (int s = 0; s < 30; s++) {
            due("6: up to 30", many.insert(s, s % 10, 3), 3 * (s + 1));
        }
        due("6: 31st", many.insert(0, 0, 1), FULL);
        due("6: range first", many.insert(31, 0, 1), BAD);
        due("6: 30 stay", many.count(1), 30);

        LipFlaps full = frames(79);
        due("6: 99 frames", full.insert(0, 0, 20), 99);
        due("6: 100 frames", full.insert(0, 0, 1), FULL);
        due("6: range first", full.insert(0, 0, 21), BAD);
        full.remove(0);
        due("6: 100 frames at once", full.insert(0, 0, 20) + full.insert(0, 1, 1), 99 + FULL);
    }

    private static void remove() {
        LipFlaps x = new LipFlaps();
        due("7: none", x.remove(0), BAD);
        x.insert(0, 1, 2);
        x.insert(1, 2, 3);
        x.insert(2, 3, 4);
        x.pin(1, 0);
        x.pin(2, 0);
        x.pin(5, 0);
        x.draw(4, 0);
        x.draw(8, 0);
        due("7: none", x.remove(3), BAD);
        due("7: none", x.remove(-1), BAD);
        due("7: amid", x.remove(1), 6);
        due("7: kinds", kinds(x), 13);
        due("7: pin ahead", x.frame(1, 2), 0);
        due("7: pin behind", x.frame(2, 2), 0);
        due("7: pins", x.count(3), 2);
        due("7: drawn behind", x.frame(5, 3), 0);
        due("7: drawn", x.count(4), 1);
        due("7: new ones are bare", x.insert(2, 0, 5), 11);
        due("7: new ones are bare", x.count(3) * 10 + x.count(4), 21);
        x.undo();
        x.undo();
        due("7: undone", x.count(3) * 10 + x.count(4), 32);
        due("7: undone", kinds(x), 123);
        due("7: to the last", x.remove(0) + x.remove(0) + x.remove(0), 7 + 4);
    }

    private static void stretch() {
        LipFlaps x = new LipFlaps();
        x.insert(0, 1, 3);
        x.insert(1, 2, 3);
        x.pin(2, 0);
        x.pin(3, 0);
        x.draw(5, 0);
        due("8: longer", x.stretch(0, 5), 3);
        due("8: own frames stay", x.frame(2, 2), 0);
        due("8: new ones are bare", x.frame(3, 2), NONE);
        due("8: new ones are bare", x.frame(4, 2), NONE);
        due("8: behind", x.frame(5, 2), 0);
        due("8: behind", x.frame(7, 3), 0);
        due("8: first frame", x.segment(1, 2), 5);
        due("8: shorter", x.stretch(0, 2), 5);
        due("8: the last ones go", x.count(3), 1);
        due("8: behind", x.frame(2, 2), 0);
        due("8: behind", x.frame(4, 3), 0);
        due("8: frames", x.count(2), 5);
        due("8: same", x.stretch(1, 3), 3);
        due("8: same is an action", x.count(7), 5);
        due("8: no segment", x.stretch(2, 1), BAD);
        due("8: no segment", x.stretch(-1, 1), BAD);
        due("8: frames", x.stretch(0, 0), BAD);
        due("8: frames", x.stretch(0, 21), BAD);
        x.undo();
        x.undo();
        due("8: undone", x.count(2) * 10 + x.count(3), 82);

        LipFlaps full = frames(98);
        due("8: 99 frames", full.stretch(4, 19), 18);
        due("8: 100 frames", full.stretch(4, 20), FULL);
        due("8: range first", full.stretch(4, 21), BAD);
        due("8: no segment first", full.stretch(5, 20), BAD);
        due("8: full but shorter", full.stretch(0, 1), 20);
    }

    private static void pin() {
        LipFlaps x = threeMouths();
        x.insert(0, 0, 2);
        due("9: pin", x.pin(1, 2), NONE);
        due("9: again", x.pin(1, 0), 2);
        due("9: pinned", x.frame(1, 2), 0);
        due("9: other", x.frame(0, 2), NONE);
        due("9: none", x.pin(1, -1), 0);
        due("9: none again", x.pin(1, -1), NONE);
        due("9: not pinned", x.frame(1, 2), NONE);
        due("9: frame", x.pin(2, 0), BAD);
        due("9: frame", x.pin(-1, 0), BAD);
        due("9: mouth", x.pin(0, 3), BAD);
        due("9: mouth", x.pin(0, -2), BAD);
        due("9: mouth", x.pin(0, NONE), BAD);
        due("9: not drawn", x.count(4), 0);
        due("9: history", x.count(7), 5);
        x.undo();
        x.undo();
        due("9: undone", x.frame(1, 2), 0);
    }

    private static void draw() {
        LipFlaps x = threeMouths();
        x.insert(0, 0, 2);
        due("10: draw", x.draw(0, 1), NONE);
        due("10: again", x.draw(0, 2), 1);
        due("10: drawn", x.frame(0, 3), 2);
        due("10: clear", x.draw(0, -1), 2);
        due("10: clear again", x.draw(0, -1), NONE);
        due("10: cleared", x.frame(0, 3), NONE);
        due("10: frame", x.draw(2, 0), BAD);
        due("10: frame", x.draw(-1, 0), BAD);
        due("10: mouth", x.draw(0, 3), BAD);
        due("10: mouth", x.draw(0, -2), BAD);
        due("10: not pinned", x.count(3), 0);
        x.undo();
        x.undo();
        due("10: undone", x.frame(0, 3), 2);
    }

    private static void between() {
        LipFlaps x = new LipFlaps();
        x.setMouth(0, 0, 0);
        for (int m = 1; m < 7; m++) {
            x.addMouth(m, 0);
        }
        x.setNumber(0, 9);
        x.insert(0, 0, 5);
        x.draw(0, 0);
        due("11: not drawn", x.between(0, 4), STATE);
        due("11: not drawn", x.between(1, 0), BAD);
        due("11: not drawn ahead", x.between(1, 4), STATE);
        x.draw(4, 6);
        due("11: same", x.between(4, 4), BAD);
        due("11: backward", x.between(4, 0), BAD);
        due("11: no frame", x.between(-1, 4), BAD);
        due("11: no frame", x.between(0, 5), BAD);
        x.pin(2, 6);
        due("11: rising", x.between(0, 4), 2);
        due("11: rising", drawn(x, 5), 1346);
        due("11: an action", x.count(7), 5);
        x.draw(0, 6);
        x.draw(4, 0);
        due("11: falling", x.between(0, 4), 2);
        due("11: rounded toward the first", drawn(x, 5), 65320);
        x.setNumber(0, 1);
        due("11: held back by the speed", x.between(0, 4), 3);
        due("11: step by step", drawn(x, 5), 65430);
        due("11: neighbours", x.between(3, 4), 3);
        due("11: pins stay", x.frame(2, 2), 6);
        x.undo();
        due("11: undone", drawn(x, 5), 65430);
        x.undo();
        due("11: undone", drawn(x, 5), 65320);

        LipFlaps amid = new LipFlaps();
        amid.setMouth(0, 2, 5);
        for (int m = 1; m < 7; m++) {
            amid.addMouth(2, m < 6 ? m - 1 : 6);
        }
        amid.setNumber(0, 9);
        amid.insert(0, 0, 7);
        amid.draw(2, 1);
        amid.draw(6, 6);
        due("11: not from frame 0", amid.between(2, 6), 2);
        due("11: by the width", drawn(amid, 3, 6), 245);
        due("11: the others stay", amid.count(4), 5);
        amid.draw(2, 6);
        amid.draw(6, 1);
        due("11: by mouth 0", amid.between(2, 6), 2);
        due("11: by mouth 0", amid.frame(3, 3), 0);
        due("11: by mouth 0", drawn(amid, 4, 6), 43);

        LipFlaps open = threeMouths();
        open.addMouth(3, 4);
        open.insert(0, 0, 6);
        open.draw(2, 0);
        open.draw(5, 2);
        due("11: by the opening, not from frame 0", open.between(2, 5), 3);
        due("11: by the opening, not from frame 0", drawn(open, 3, 5), 11);
        open.draw(2, 3);
        due("11: the ends stay", open.between(2, 5), 0);
        due("11: the ends stay", drawn(open, 2, 6), 3122);

        LipFlaps tie = new LipFlaps();
        tie.setMouth(0, 2, 2);
        tie.addMouth(6, 6);
        tie.addMouth(4, 6);
        tie.addMouth(4, 2);
        tie.addMouth(5, 3);
        tie.addMouth(3, 5);
        tie.insert(0, 0, 3);
        tie.draw(0, 0);
        tie.draw(2, 1);
        due("11: nearest by the greater difference", tie.between(0, 2), 3);
        due("11: smallest number", tie.frame(1, 3), 4);
    }

    private static void finish() {
        LipFlaps x = threeMouths();
        due("12: no frames", x.finish(), 0);
        due("12: an action", x.count(7), 3);
        x.insert(0, 0, 3);
        x.setSound(0, 0, 9);
        x.pin(0, 0);
        x.draw(2, 0);
        due("12: sum", x.finish(), 9 + 6 + 3);
        due("12: drawn", drawn(x, 3), 12);
        due("12: fault", x.fault(0), NONE);
        x.undo();
        due("12: undone", x.count(4), 1);
        x.pin(1, 2);
        due("12: no plan", x.finish(), STATE);
        due("12: nothing drawn", x.count(4), 1);
    }

    private static void breathe() {
        LipFlaps x = new LipFlaps();
        due("13: frames", x.breathe(0), BAD);
        due("13: frames", x.breathe(21), BAD);
        due("13: no gasp", x.breathe(20), 0);
        due("13: an action", x.count(7), 1);
        x.setNumber(3, 5);
        for (int s = 0; s < 4; s++) {
            x.insert(s, s, 3);
        }
        x.pin(11, 0);
        due("13: gasps", x.count(5), 7);
        due("13: breaths", x.breathe(2), 3);
        due("13: segments", kinds(x), 919293);
        due("13: no gasp is left", x.count(5), 0);
        due("13: frames", x.count(2), 18);
        due("13: pin moves", x.frame(17, 2), 0);
        due("13: one action", x.undo(), 4);
        due("13: undone", kinds(x), 123);

        LipFlaps first = new LipFlaps();
        first.setNumber(3, 2);
        first.insert(0, 0, 3);
        due("13: ahead of segment 0", first.breathe(1), STATE);
        due("13: range first", first.breathe(21), BAD);
        first.insert(0, 9, 1);
        due("13: behind a breath", first.breathe(1), STATE);
        first.insert(1, 1, 2);
        due("13: a breath does not help", first.breathe(1), STATE);
        due("13: nothing stays", first.count(1) * 10 + first.count(5), 33);
        due("13: no action", first.count(7), 4);

        LipFlaps room = frames(80);
        due("13: no room", room.breathe(20), FULL);
        due("13: nothing stays", room.count(1), 4);
        due("13: room", room.breathe(19), 1);

        LipFlaps both = frames(99);
        both.setNumber(3, 10);
        due("13: state first", both.breathe(1), STATE);

        LipFlaps late = frames(60);
        late.setNumber(3, 20);
        late.setNumber(4, 20);
        late.insert(0, 9, 18);
        due("13: no room for the second", late.breathe(20), FULL);
        late.setSound(1, 3, 2);
        due("13: state first for the second", late.breathe(20), STATE);
        due("13: nothing stays", late.count(2), 78);

        LipFlaps many = new LipFlaps();
        many.setNumber(3, 2);
        for (int s = 0; s < 30; s++) {
            many.insert(s, 0, 1);
        }
        due("13: no room for a 31st", many.breathe(1), FULL);
        due("13: nothing stays", many.count(1), 30);
    }

    private static void takeAndRestore() {
        LipFlaps x = threeMouths();
        x.insert(0, 5, 4);
        x.pin(1, 1);
        x.draw(2, 2);
        x.draw(3, 2);
        for (int slot : new int[] {-1, 2, Integer.MAX_VALUE, Integer.MIN_VALUE}) {
            due("14: slot", x.take(slot), BAD);
            due("15: slot", x.restore(slot), BAD);
        }
        due("15: empty", x.restore(1), STATE);
        x.undo();
        due("14: take", x.take(1), 4);
        due("14: an action", x.count(7), 5);
        due("14: snapshots", x.count(6), 1);
        due("15: other is empty", x.restore(0), STATE);
        x.addMouth(9, 9);
        x.setMouth(1, 9, 9);
        x.setSound(2, 0, 9);
        x.setNumber(2, 9);
        x.insert(0, 1, 7);
        x.pin(0, 3);
        x.draw(0, 3);
        x.append('a');
        due("15: restore", x.restore(1), 4);
        due("15: mouths", x.count(0), 3);
        due("15: mouth", x.mouth(1, 0), 3);
        due("15: sound", x.sound(2, 0), 3);
        due("15: number", x.number(2), 5);
        due("15: segments", x.count(1) * 10 + x.segment(0, 0), 15);
        due("15: pin", x.frame(1, 2), 1);
        due("15: drawn", x.frame(2, 3), 2);
        due("15: pins", x.count(3) * 10 + x.count(4), 11);
        due("15: the text stays", x.count(8), 1);
        due("15: it stays", x.count(6), 1);
        x.remove(0);
        due("15: again", x.restore(1), 4);
        due("15: an action", x.undo(), 4);
        due("15: undone", x.count(2), 0);
        due("14: in place", x.take(1), 0);
        due("14: in place", x.restore(1), 0);
        due("14: both", x.take(0) + x.count(6), 2);
        x.undo();
        due("14: snapshots are undone", x.count(6), 1);
        x.undo();
        x.undo();
        due("14: the one ahead is back", x.restore(1), 4);
    }

    private static void undo() {
        LipFlaps x = new LipFlaps();
        due("16: empty", x.undo(), STATE);
        for (int i = 1; i <= 7; i++) {
            due("16: action", x.setNumber(3, i), i == 1 ? 40 : i - 1);
            due("16: at most 5", x.count(7), Math.min(i, 5));
        }
        for (int left = 4; left >= 0; left--) {
            due("16: left", x.undo(), left);
            due("16: state", x.number(3), left + 2);
        }
        due("16: the oldest ones are dropped", x.undo(), STATE);
        due("16: state", x.number(3), 2);
        x.setNumber(3, 9);
        x.append('z');
        due("16: after undo", x.undo(), 0);
        due("16: no undo of undo", x.number(3), 2);
        due("16: the text stays", x.count(8), 1);
    }

    private static void appendAndClear() {
        LipFlaps x = new LipFlaps();
        due("17: character", x.append(0), BAD);
        due("17: character", x.append(256), BAD);
        due("17: character", x.append(-1), BAD);
        due("17: low", x.append(1), 1);
        due("17: high", x.append(255), 2);
        for (int i = 3; i <= 120; i++) {
            due("17: length", x.append(32), i);
        }
        due("17: full", x.append(32), FULL);
        due("17: range first", x.append(0), BAD);
        due("17: count", x.count(8), 120);
        due("17: no action", x.count(7), 0);
        due("18: clear", x.clearText(), 120);
        due("18: clear again", x.clearText(), 0);
        due("18: no action", x.count(7), 0);
        due("17: anew", x.append(32), 1);
    }

    private static void load() {
        LipFlaps x = threeMouths();
        due("19: no items", read(x, ""), 0);
        due("19: an action", x.count(7), 3);
        due("19: spaces", read(x, "   "), 0);
        x.undo();
        x.undo();
        due("19: items", read(x, " a 3 ! 2 .20i1!0 "), 3);
        due("19: one action", x.count(7), 3);
        due("19: the text is empty", x.count(8), 0);
        due("19: kinds", kinds(x), 98);
        due("19: lengths", x.segment(0, 1) * 10000 + x.segment(1, 1) * 100 + x.segment(2, 1), 32001);
        due("19: pins", x.frame(0, 2) * 10 + x.frame(23, 2), 20);
        due("19: the first frame alone", x.count(3), 2);
        due("19: behind the others", read(x, "b2c1!1"), 2);
        due("19: kinds", kinds(x), 9812);
        due("19: pin", x.frame(26, 2), 1);
        x.undo();
        due("19: undone", kinds(x), 98);
        due("19: undone without the text", x.count(8), 0);
        StringBuilder many = new StringBuilder();
        for (int i = 0; i < 27; i++) {
            many.append((char) ('a' + i % 9)).append("1");
        }
        due("19: up to 30", read(x, many.toString()), 27);
        due("19: 31st", read(x, " a1"), -1001);
        due("19: what was read is gone", read(new LipFlaps(), "a1") + readTwice("a12", "b1"), 1 + 13);
        due("19: what was read is gone", readTwice("a1!0", "b1"), 2);
        due("19: what was read is gone", readTwice("a1  ", "b1"), 2);
        due("19: what was read is gone", readTwice("a1b1", "a1"), 3);
        LipFlaps full = frames(79);
        due("19: 99 frames", read(full, "a20"), 1);
        due("19: 100 frames", read(full, "a1"), -1001);
    }

    private static void loadErrors() {
        String[] texts = {"A1", "j1", "0", "a", "a ", "a0", "a21", "a07", "a00", "a1!", "a1! ", "a1!3", "a1!00",
            "a1!01", "a1 2", "a2 0", "a1!0 1", "a1!0!0", "a1!1 2b1", "!", "a!", "a-1", "a1b", "a1..", "a99999999999",
            "a4294967297", "a1!4294967296", "a20b20c20d20e20", "a20b20c20d20e19f1", "a1\t", "a1,b1", "a1 j1", "aa1",
            "a1 !-1", "\u00ff", "a\u00b2", "a20b20c20d20e19x", "a20b20c20d20e0", "a1!2b30", "a100000000000000000001"};
        int[] errors = {0, 0, 0, 1, 2, 1, 1, 1, 1, 3, 4, 3, 3,
            3, 3, 3, 5, 4, 5, 0, 1, 1, 3, 3, 1,
            1, 3, 13, 16, 2, 2, 3, 1,
            4, 0, 1, 15, 13, 5, 1};
        for (int i = 0; i < texts.length; i++) {
            LipFlaps x = threeMouths();
            due("19: '" + texts[i] + "'", read(x, texts[i]), -1000 - errors[i]);
            due("19: nothing changes", x.count(1) + x.count(2) + x.count(3), 0);
            due("19: no action", x.count(7), 2);
            due("19: the text is kept", x.count(8), texts[i].length());
        }
        LipFlaps many = new LipFlaps();
        for (int s = 0; s < 29; s++) {
            many.insert(0, 0, 1);
        }
        due("19: 31st", read(many, "a1 .1"), -1003);
        due("19: the letter is ahead of the number", many.clearText() + read(many, "a1 .99"), 5 - 1003);
        due("19: no letter", many.clearText() + read(many, "a1 x"), 6 - 1003);
        due("19: 30", many.clearText() + read(many, "a1"), 4 + 1);
    }

    private static void count() {
        LipFlaps x = threeMouths();
        for (int what : FAR) {
            due("20: what", x.count(what), BAD);
        }
        due("20: what", x.count(-1), BAD);
        due("20: what", x.count(9), BAD);
        x.insert(0, 0, 4);
        x.insert(1, 0, 3);
        x.setNumber(3, 2);
        x.pin(0, 0);
        x.pin(6, 0);
        x.draw(1, 1);
        x.take(0);
        x.take(1);
        x.take(1);
        x.append('a');
        x.append('b');
        x.append('c');
        int[] counts = {3, 2, 7, 2, 1, 5, 2, 5, 3};
        for (int what = 0; what < counts.length; what++) {
            due("20: count " + what, x.count(what), counts[what]);
        }
    }

    private static void lookingAtMouths() {
        LipFlaps x = threeMouths();
        due("21: opening", x.mouth(2, 0), 6);
        due("21: width", x.mouth(2, 1), 4);
        due("21: mouth", x.mouth(3, 0), BAD);
        due("21: mouth", x.mouth(-1, 0), BAD);
        due("21: what", x.mouth(0, 2), BAD);
        due("21: what", x.mouth(0, -1), BAD);
        x.setMouth(1, 1, 7);
        due("22: by the width", x.jump(0, 1), 3);
        due("22: by the opening", x.jump(1, 2), 5);
        due("22: backward", x.jump(2, 1), 5);
        due("22: same", x.jump(2, 2), 0);
        due("22: a", x.jump(3, 0), BAD);
        due("22: a", x.jump(-1, 0), BAD);
        due("22: b", x.jump(0, 3), BAD);
        due("22: b", x.jump(0, -1), BAD);
        due("22: no action", x.count(7), 3);
    }

    private static void soundAndNumber() {
        LipFlaps x = new LipFlaps();
        x.setSound(4, 2, 7);
        due("23: sound", x.sound(4, 2), 7);
        due("23: other", x.sound(4, 1), 4);
        due("23: kind", x.sound(9, 0), BAD);
        due("23: kind", x.sound(-1, 0), BAD);
        due("23: what", x.sound(0, 4), BAD);
        due("23: what", x.sound(0, -1), BAD);
        x.setNumber(4, 17);
        due("24: number", x.number(4), 17);
        due("24: other", x.number(3), 40);
        due("24: what", x.number(5), BAD);
        due("24: what", x.number(-1), BAD);
    }

    private static void segment() {
        LipFlaps x = new LipFlaps();
        due("25: none", x.segment(0, 0), BAD);
        x.insert(0, 3, 4);
        x.insert(1, 9, 5);
        due("25: kind", x.segment(0, 0), 3);
        due("25: breath", x.segment(1, 0), 9);
        due("25: frames", x.segment(1, 1), 5);
        due("25: first", x.segment(0, 2), 0);
        due("25: first", x.segment(1, 2), 4);
        due("25: segment", x.segment(2, 0), BAD);
        due("25: segment", x.segment(-1, 0), BAD);
        due("25: what", x.segment(0, 3), BAD);
        due("25: what", x.segment(0, -1), BAD);
    }

    private static void frame() {
        LipFlaps x = threeMouths();
        due("26: none", x.frame(0, 0), BAD);
        x.insert(0, 3, 2);
        x.insert(1, 9, 2);
        x.pin(1, 1);
        x.draw(2, 2);
        due("26: segment", x.frame(1, 0), 0);
        due("26: segment", x.frame(2, 0), 1);
        due("26: kind", x.frame(1, 1), 3);
        due("26: kind", x.frame(3, 1), 9);
        due("26: pinned", x.frame(1, 2), 1);
        due("26: not pinned", x.frame(0, 2), NONE);
        due("26: drawn", x.frame(2, 3), 2);
        due("26: not drawn", x.frame(1, 3), NONE);
        due("26: plan", x.frame(0, 6) * 10 + x.frame(3, 6), 12);
        due("26: frame", x.frame(4, 0), BAD);
        due("26: frame", x.frame(-1, 0), BAD);
        due("26: what", x.frame(0, 7), BAD);
        due("26: what", x.frame(0, -1), BAD);
        x.pin(2, 1);
        x.pin(1, 0);
        x.setNumber(0, 2);
        due("26: no plan", x.frame(0, 6), NONE);
    }

    private static void air() {
        LipFlaps x = new LipFlaps();
        x.setNumber(3, 5);
        x.setNumber(4, 4);
        x.setSound(1, 3, 3);
        x.setSound(2, 3, 0);
        x.insert(0, 1, 3);
        x.insert(1, 9, 2);
        x.insert(2, 2, 1);
        x.insert(3, 0, 6);
        int[] behind = {2, 0, 0, 4, 5, 5, 4, 3, 2, 1, 0, 0};
        int[] gasps = {0, 1, 1, 0, 0, 0, 0, 0, 0, 0, 0, 1};
        for (int f = 0; f < behind.length; f++) {
            due("26: air behind " + f, x.frame(f, 4), behind[f]);
            due("26: gasp in " + f, x.frame(f, 5), gasps[f]);
        }
        due("20: gasps", x.count(5), 3);
        x.stretch(0, 1);
        x.setSound(0, 3, 0);
        due("26: all is well with no use", x.count(5), 0);
        x.setNumber(3, 3);
        due("26: air may be used up", x.frame(0, 4) * 10 + x.frame(0, 5), 0);
    }

    private static void wrongness() {
        LipFlaps x = threeMouths();
        x.insert(0, 3, 1);
        x.insert(1, 9, 1);
        x.setSound(3, 0, 5);
        x.setSound(3, 1, 1);
        x.setSound(3, 2, 7);
        due("27: sound", x.wrongness(0, 0), 7 * (5 + 3));
        due("27: sound", x.wrongness(0, 2), 7 * (1 + 3));
        due("27: breath", x.wrongness(1, 0), 45);
        due("27: breath", x.wrongness(1, 1), 18);
        due("27: breath wide open", x.wrongness(1, 2), 0);
        x.setNumber(2, 6);
        due("27: just the gape", x.wrongness(1, 2), 0);
        x.setSound(3, 2, 0);
        due("27: without weight", x.wrongness(0, 0), 0);
        due("27: frame", x.wrongness(2, 0), BAD);
        due("27: frame", x.wrongness(-1, 0), BAD);
        due("27: mouth", x.wrongness(0, 3), BAD);
        due("27: mouth", x.wrongness(0, -1), BAD);
    }

    private static void least() {
        LipFlaps x = threeMouths();
        due("28: way", x.least(2), BAD);
        due("28: way", x.least(-1), BAD);
        due("28: no frames", x.least(0) + x.least(1), 0);
        x.insert(0, 0, 1);
        x.insert(1, 1, 3);
        x.setSound(0, 0, 0);
        x.setSound(1, 0, 6);
        leastIs(x, "28: the jump is too great for all", 3);
        due("28: the smallest plan of several", plan(x, 4), 122);
        x.setNumber(1, 2);
        leastIs(x, "28: the first run is held", 6);
        due("28: held plan", plan(x, 4), 1122);
        x.setNumber(1, 3);
        leastIs(x, "28: one run", 6);
        due("28: one run", plan(x, 4), 2222);
        x.pin(0, 1);
        leastIs(x, "28: the last run may be short", 9);
        due("28: the last run may be short", plan(x, 4), 1112);
        x.pin(0, 0);
        x.setNumber(1, 1);
        leastIs(x, "28: pinned", 3);
        due("28: pinned plan", plan(x, 4), 122);
        x.pin(0, 2);
        leastIs(x, "28: pinned", 6);
        x.pin(1, 0);
        leastIs(x, "28: no plan", NONE);

        LipFlaps one = threeMouths();
        one.insert(0, 9, 1);
        one.setMouth(2, 4, 4);
        leastIs(one, "28: one frame", 9);
        one.setNumber(2, 0);
        one.addMouth(9, 9);
        one.undo();
        leastIs(one, "28: the smallest of several", 0);
        due("28: the smallest of several", one.frame(0, 6), 0);
        one.setSound(0, 0, 0);
        one.insert(1, 0, 1);
        leastIs(one, "28: to mouth 0", 0);

        LipFlaps steps = threeMouths();
        for (int s = 0; s < 3; s++) {
            steps.setSound(s, 0, 3 * s);
            steps.insert(s, s, s == 0 ? 2 : 2 * s - 1);
        }
        steps.setNumber(1, 2);
        leastIs(steps, "28: a run amid is held", 3);
        due("28: a run amid is held", plan(steps, 6), 1122);

        LipFlaps twins = new LipFlaps();
        twins.addMouth(0, 4);
        twins.setNumber(1, 2);
        twins.insert(0, 0, 3);
        twins.pin(1, 1);
        due("28: a run is by the number", twins.least(0), 9);
        due("28: a run is by the number", plan(twins, 3), 110);
        twins.pin(0, 0);
        due("28: the run of twin 0 is too short", twins.least(1), NONE);
        twins.pin(0, -1);
        twins.pin(1, -1);
        due("28: the smallest mouths", plan(twins, 3), 0);
    }

    private static void leastIs(LipFlaps x, String what, int sum) {
        due(what, x.least(0), sum);
        due(what, x.least(1), sum);
    }

    private static void leastWith() {
        LipFlaps x = threeMouths();
        x.insert(0, 0, 3);
        x.setSound(0, 2, 4);
        due("29: best", x.leastWith(1, 1), 0);
        due("29: other", x.leastWith(1, 0), 12);
        due("29: other", x.leastWith(0, 2), 12);
        due("29: frame", x.leastWith(3, 0), BAD);
        due("29: frame", x.leastWith(-1, 0), BAD);
        due("29: mouth", x.leastWith(0, 3), BAD);
        due("29: mouth", x.leastWith(0, -1), BAD);
        x.pin(0, 0);
        due("29: from the pin", x.leastWith(1, 1), 12);
        due("29: too far", x.leastWith(1, 2), NONE);
        due("29: two jumps", x.leastWith(2, 2), 24);
        due("29: pinned to it", x.leastWith(0, 0), 12);
        due("29: pinned to another", x.leastWith(0, 1), NONE);
        x.setNumber(1, 2);
        due("29: held", x.leastWith(2, 1), 24);
        due("29: held", x.leastWith(1, 1), NONE);
        due("29: nothing changes", x.least(0) * 10 + x.count(3), 241);
    }

    private static void why() {
        LipFlaps x = threeMouths();
        due("30: frame", x.why(0), BAD);
        x.insert(0, 0, 2);
        x.insert(1, 1, 2);
        x.setSound(0, 0, 0);
        x.setSound(1, 0, 6);
        x.setSound(1, 2, 2);
        due("30: plan", plan(x, 4), 122);
        due("30: little wrong", x.why(0), 0);
        due("30: the next one", x.why(1), 3);
        due("30: little wrong", x.why(2), 0);
        due("30: frame", x.why(4), BAD);
        due("30: frame", x.why(-1), BAD);
        x.pin(1, 1);
        due("30: pinned", x.why(1), 1);
        x.pin(1, 0);
        due("30: little wrong though pinned", x.why(1), 0);
        due("30: the one ahead", x.why(2), 2);
        x.pin(1, -1);
        x.setNumber(1, 3);
        due("30: plan", plan(x, 4), 1112);
        due("30: in the last frame", x.why(3), 0);
        due("30: the hold again", x.why(2), 4);
        due("30: the hold", x.why(0), 4);
        x.setNumber(0, 1);
        due("30: plan", plan(x, 4), 2222);
        due("30: the first frame has none ahead", x.why(0), 3);
        due("30: both", x.why(1), 2);
        x.pin(0, 0);
        x.pin(1, 1);
        due("30: no plan", x.why(0), NONE);
        due("30: frame first", x.why(4), BAD);
    }

    private static void whyOfSeveralRivals() {
        LipFlaps x = new LipFlaps();
        x.addMouth(6, 4);
        x.addMouth(9, 4);
        x.setNumber(1, 3);
        x.insert(0, 0, 3);
        x.pin(0, 2);
        due("30: plan", plan(x, 3), 222);
        due("30: the rival with the smallest number", x.why(1), 2);
        x.setMouth(0, 7, 4);
        due("30: the less wrong rival", x.why(1), 4);
    }

    private static void whyAtTheEnd() {
        LipFlaps x = threeMouths();
        x.addMouth(9, 4);
        x.setSound(0, 0, 0);
        x.setSound(0, 2, 9);
        x.setSound(2, 0, 9);
        for (int s = 0; s < 3; s++) {
            x.insert(s, s, 1);
        }
        x.setNumber(0, 9);
        due("30: plan", plan(x, 3), 13);
        x.remove(2);
        x.setNumber(0, 3);
        x.setNumber(1, 3);
        due("30: the last frame has none behind", x.why(1), 4);
        x.setNumber(1, 1);
        x.pin(1, 2);
        due("30: plan", plan(x, 2), 12);
        due("30: the next one is the last", x.why(0), 3);
        x.setSound(1, 0, 0);
        x.pin(1, -1);
        x.pin(0, 2);
        x.addMouth(0, 4);
        due("30: plan", plan(x, 2), 21);
        due("30: the one ahead is the first", x.why(1), 2);
    }

    private static void fault() {
        LipFlaps x = threeMouths();
        due("31: what", x.fault(2), BAD);
        due("31: what", x.fault(-1), BAD);
        due("31: no frames", x.fault(0), NONE);
        x.insert(0, 0, 6);
        faultIs(x, 0, 1);
        drawAll(x, "000112");
        faultIs(x, NONE, NONE);
        x.draw(3, -1);
        faultIs(x, 3, 1);
        x.pin(2, 1);
        faultIs(x, 2, 2);
        x.pin(2, 0);
        drawAll(x, "000222");
        faultIs(x, 3, 3);
        x.pin(3, 0);
        faultIs(x, 3, 2);
        x.pin(3, -1);
        drawAll(x, "000121");
        x.setNumber(1, 2);
        faultIs(x, 4, 4);
        drawAll(x, "000221");
        faultIs(x, 3, 3);
        drawAll(x, "000112");
        faultIs(x, NONE, NONE);
        x.setNumber(1, 3);
        faultIs(x, 5, 4);
        drawAll(x, "011111");
        x.pin(2, -1);
        faultIs(x, 1, 4);
        x.setNumber(0, 2);
        faultIs(x, 1, 3);
        x.draw(0, 1);
        faultIs(x, NONE, NONE);
        x.setNumber(0, 3);
        drawAll(x, "000112");
        x.setNumber(1, 2);
        drawAll(x, "001001");
        faultIs(x, 3, 4);
    }

    private static void faultIs(LipFlaps x, int frame, int reason) {
        due("31: frame", x.fault(0), frame);
        due("31: reason", x.fault(1), reason);
    }

    private static void drawnSum() {
        LipFlaps x = threeMouths();
        due("32: no frames", x.drawnSum(), 0);
        x.insert(0, 0, 2);
        x.insert(1, 9, 1);
        x.draw(0, 0);
        x.draw(1, 2);
        due("32: not drawn", x.drawnSum(), NONE);
        x.draw(2, 1);
        due("32: sum", x.drawnSum(), 3 + 3 + 18);
        x.draw(0, -1);
        due("32: not drawn", x.drawnSum(), NONE);
    }

    private static void speedFor() {
        LipFlaps x = threeMouths();
        for (int limit : new int[] {-1, 100000, Integer.MIN_VALUE, Integer.MAX_VALUE}) {
            due("33: limit", x.speedFor(limit), BAD);
        }
        due("33: no frames", x.speedFor(0), 1);
        x.insert(0, 0, 1);
        x.insert(1, 1, 1);
        x.setSound(0, 0, 0);
        x.setSound(1, 0, 6);
        due("33: all", x.speedFor(0), 6);
        due("33: not one step", x.speedFor(2), 6);
        due("33: one step", x.speedFor(3), 3);
        due("33: not two steps", x.speedFor(5), 3);
        due("33: two steps", x.speedFor(6), 1);
        due("33: any", x.speedFor(99999), 1);
        due("33: nothing changes", x.number(0), 3);
        x.setNumber(0, 9);
        due("33: whatever the speed is", x.speedFor(6), 1);
        x.pin(0, 0);
        x.pin(1, 2);
        due("33: pinned", x.speedFor(99999), 6);
        x.setNumber(1, 2);
        due("33: none", x.speedFor(99999), NONE);
        x.setNumber(1, 1);
        x.pin(1, 1);
        due("33: too wrong", x.speedFor(2), NONE);
        due("33: just as wrong", x.speedFor(3), 3);
        x.setMouth(2, 9, 4);
        x.pin(1, 2);
        due("33: the greatest speed", x.speedFor(99999), 9);
    }

    private static void nearest() {
        LipFlaps x = threeMouths();
        due("34: nearest", x.nearest(9, 4), 2);
        due("34: nearest", x.nearest(4, 4), 1);
        due("34: nearest", x.nearest(1, 4), 0);
        due("34: smallest number", x.nearest(5, 9), 0);
        due("34: smallest number", x.nearest(8, 9), 1);
        due("34: greater difference", x.nearest(9, 0), 2);
        due("34: greater difference", x.nearest(4, 0), 0);
        due("34: the least and the greatest", x.nearest(0, 0) * 100 + x.nearest(0, 9) * 10 + x.nearest(9, 9), 2);
        due("34: of the mouths that there are", new LipFlaps().nearest(0, 0), 0);
        for (int bad : new int[] {-1, 10, Integer.MIN_VALUE, Integer.MAX_VALUE}) {
            due("34: opening", x.nearest(bad, 0), BAD);
            due("34: width", x.nearest(0, bad), BAD);
        }
    }

    private static void errorsAreNoActions() {
        LipFlaps x = threeMouths();
        x.insert(0, 0, 2);
        int states = x.count(7);
        for (int far : FAR) {
            int[] answers = {x.addMouth(far, 0), x.setMouth(far, 0, 0), x.setSound(far, 0, 0), x.setSound(0, far, 0),
                x.setSound(0, 0, far), x.setNumber(far, 1), x.setNumber(0, far), x.insert(far, 0, 1),
                x.insert(0, far, 1), x.insert(0, 0, far), x.remove(far), x.stretch(far, 1), x.stretch(0, far),
                x.pin(far, 0), x.pin(0, far), x.draw(far, 0), x.draw(0, far), x.between(far, 1), x.between(0, far),
                x.breathe(far), x.take(far), x.restore(far), x.append(far), x.count(far), x.mouth(far, 0),
                x.mouth(0, far), x.jump(far, 0), x.jump(0, far), x.sound(far, 0), x.sound(0, far), x.number(far),
                x.segment(far, 0), x.segment(0, far), x.frame(far, 0), x.frame(0, far), x.wrongness(far, 0),
                x.wrongness(0, far), x.least(far), x.leastWith(far, 0), x.leastWith(0, far), x.why(far),
                x.fault(far), x.nearest(far, 0), x.nearest(0, far)};
            for (int i = 0; i < answers.length; i++) {
                due("argument " + far + " of call " + i, answers[i], BAD);
            }
        }
        due("errors record nothing", x.count(7), states);
        due("errors change nothing", x.count(0) * 100 + x.count(1) * 10 + x.count(2), 312);
    }

    /** As many mouths, segments and frames as there can be, with the greatest hold. */
    private static void atTheLimits() {
        LipFlaps x = new LipFlaps();
        x.setNumber(1, 3);
        x.setNumber(3, 99);
        for (int m = 1; m < 8; m++) {
            x.addMouth(m, 4);
        }
        for (int s = 0; s < 30; s++) {
            x.insert(s, s % 9, s < 9 ? 4 : 3);
        }
        due("frames", x.count(2), 99);
        due("28: all are well", x.least(0) + x.least(1), 0);
        due("12: all are well", x.finish() * 1000 + x.count(4), 99);
        due("31: no fault", x.fault(0), NONE);
        due("11: from the first to the last", x.between(0, 98), 0);
        x.pin(98, 7);
        x.pin(0, 0);
        due("28: from the first to the last", x.least(0), 3 * 3 + 3 * 1 + 4);
        due("28: both ways", x.least(1), x.least(0));
        due("29: in the last frame", x.leastWith(98, 7), x.least(0));
        due("30: in the last frame", x.why(98) * 10 + x.why(0), 11);
        due("33: speed", x.speedFor(0), NONE);
        due("26: in the last frame", x.frame(98, 6) * 1000 + x.frame(98, 4) * 10 + x.frame(98, 5), 7000);
        due("13: no gasp", x.breathe(1), 0);
        x.setNumber(3, 98);
        due("13: no room", x.breathe(1), FULL);
        due("20: a gasp", x.count(5) * 10 + x.frame(98, 5), 11);
        x.take(0);
        x.take(1);
        due("15: all", x.restore(0), 99);
        due("8: all", x.stretch(29, 1), 3);
        due("8: the pin goes", x.count(3), 1);
        due("7: all", x.remove(0), 93);
        due("16: all", x.undo() + x.undo() + x.count(2), 4 + 3 + 99);
        for (int s = 0; s < 30; s++) {
            x.remove(0);
        }
        due("19: the longest text lacks a mouth", read(x, "a3!0b3!1c3!2d3!3e3!4f3!5g3!6h3!7i3!0.3!1a3!2b3!3c3!4"
            + "d3!5e3!6f3!7g3!0h3!1i3!2.3!3a3!4b3!5c3!6d3!7e3!0f3!1g3!2h3!3i3!4.12!"), -1120);
        x.clearText();
        due("19: the longest text", read(x, "a3!0b3!1c3!2d3!3e3!4f3!5g3!6h3!7i3!0.3!1a3!2b3!3c3!4d3!5e3!6"
            + "f3!7g3!0h3!1i3!2.3!3a3!4b3!5c3!6d3!7e3!0f3!1g3!2h3!3i3!4.9!5"), 30);
    }

    /** The mouths 0 to 2 with the openings 0, 3 and 6 and the width 4; two states are in the history. */
    private static LipFlaps threeMouths() {
        LipFlaps x = new LipFlaps();
        x.addMouth(3, 4);
        x.addMouth(6, 4);
        return x;
    }

    /** So many frames, in segments of 20 frames of the kinds 0, 1, 2.. and one with what is left. */
    private static LipFlaps frames(int count) {
        LipFlaps x = new LipFlaps();
        for (int s = 0; count > 0; s++) {
            x.insert(s, s, Math.min(20, count));
            count -= 20;
        }
        return x;
    }

    /** The frames of both texts, one read behind the other. */
    private static int readTwice(String first, String second) {
        LipFlaps x = new LipFlaps();
        read(x, first);
        read(x, second);
        return x.count(2) + 100 * x.count(3) - (first.indexOf('!') < 0 ? 0 : 100);
    }

    private static int read(LipFlaps x, String text) {
        for (int i = 0; i < text.length(); i++) {
            x.append(text.charAt(i));
        }
        return x.load();
    }

    private static void drawAll(LipFlaps x, String mouths) {
        for (int f = 0; f < mouths.length(); f++) {
            x.draw(f, mouths.charAt(f) - '0');
        }
    }

    private static int kinds(LipFlaps x) {
        int all = 0;
        for (int s = 0; s < x.count(1); s++) {
            all = all * 10 + x.segment(s, 0);
        }
        return all;
    }

    private static int drawn(LipFlaps x, int frames) {
        return drawn(x, 0, frames);
    }

    private static int drawn(LipFlaps x, int first, int end) {
        int all = 0;
        for (int f = first; f < end; f++) {
            all = all * 10 + x.frame(f, 3);
        }
        return all;
    }

    private static int plan(LipFlaps x, int frames) {
        int all = 0;
        for (int f = 0; f < frames; f++) {
            all = all * 10 + x.frame(f, 6);
        }
        return all;
    }
}
