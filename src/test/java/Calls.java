import java.util.Arrays;
import java.util.List;

/** The calls of the class by their names, in the order of the document's face. */
final class Calls {
    static final List<String> NAMES = Arrays.asList("addMouth", "setMouth", "setSound", "setNumber", "insert", "remove",
        "stretch", "pin", "draw", "between", "finish", "breathe", "take", "restore", "undo", "append", "clearText",
        "load", "count", "mouth", "jump", "sound", "number", "segment", "frame", "wrongness", "least", "leastWith",
        "why", "fault", "drawnSum", "speedFor", "nearest");
    static final int UNDO = 14;
    static final int APPEND = 15;
    static final int CLEAR = 16;
    static final int LOAD = 17;
    static final int COUNT = 18;

    private Calls() {
    }

    static boolean isAction(int which) {
        return which < UNDO || which == LOAD;
    }

    static boolean isLooking(int which) {
        return which >= COUNT;
    }

    static int call(LipFlaps x, int which, int a, int b, int c) {
        switch (which) {
            case 0: return x.addMouth(a, b);
            case 1: return x.setMouth(a, b, c);
            case 2: return x.setSound(a, b, c);
            case 3: return x.setNumber(a, b);
            case 4: return x.insert(a, b, c);
            case 5: return x.remove(a);
            case 6: return x.stretch(a, b);
            case 7: return x.pin(a, b);
            case 8: return x.draw(a, b);
            case 9: return x.between(a, b);
            case 10: return x.finish();
            case 11: return x.breathe(a);
            case 12: return x.take(a);
            case 13: return x.restore(a);
            case 14: return x.undo();
            case 15: return x.append(a);
            case 16: return x.clearText();
            case 17: return x.load();
            case 18: return x.count(a);
            case 19: return x.mouth(a, b);
            case 20: return x.jump(a, b);
            case 21: return x.sound(a, b);
            case 22: return x.number(a);
            case 23: return x.segment(a, b);
            case 24: return x.frame(a, b);
            case 25: return x.wrongness(a, b);
            case 26: return x.least(a);
            case 27: return x.leastWith(a, b);
            case 28: return x.why(a);
            case 29: return x.fault(a);
            case 30: return x.drawnSum();
            case 31: return x.speedFor(a);
            default: return x.nearest(a, b);
        }
    }
}
