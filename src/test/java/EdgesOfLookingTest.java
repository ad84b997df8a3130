/** The boundary cases of the promises 20 to 34: looking, reasons, and what would be. */
public final class EdgesOfLookingTest {
    private static final String NO_SUCH_FRAME = "INVALID_ARGUMENT if there is no such frame or mouth";
    private static final String NO_ERROR = "NONE is no error, and it is returned only if no error condition applies.";

    private final Edges edges = new Edges();

    public static void main(String[] args) {
        EdgesOfLookingTest test = new EdgesOfLookingTest();
        test.count();
        test.mouth();
        test.jump();
        test.soundAndNumber();
        test.segment();
        test.frame();
        test.wrongness();
        test.least();
        test.leastWith();
        test.leastWithHold();
        test.whyErrors();
        test.whyPinned();
        test.whyJumps();
        test.whyNone();
        test.whyRivals();
        test.faultErrors();
        test.faultOrder();
        test.faultJumps();
        test.faultHold();
        test.drawnSum();
        test.speedFor();
        test.speedForHold();
        test.nearest();
        test.edges.end();
    }

    private void count() {
        edges.range("Promise 20", "what: 0 the mouths, .. 8 the length of the text", "", "count(?)", 0, 8);
        edges.hold("Promise 20", "0 the mouths, 1 the segments, 2 the frames, 3 the pinned frames", Edges.EIGHT,
            "write \"" + "a1!7".repeat(30) + "\"", """
            count(8) = 120  load() = 30  count(0) = 8  count(1) = 30  count(2) = 30  count(3) = 30  count(8) = 0
            pin(0, 3) = 7  count(3) = 30  pin(29, -1) = 7  count(3) = 29  pin(0, -1) = 3  count(3) = 28
            """);
        edges.hold("Promise 20", "4 the drawn frames, 5 the frames with a gasp", Edges.FRAMES_99, """
            count(4) = 0  finish()  count(4) = 99  draw(98, -1)  draw(0, -1)  count(4) = 97  draw(98, 0)  count(4) = 98
            count(5) = 59  setNumber(3, 1)  count(5) = 98  setSound(0, 3, 2)  count(5) = 99  setSound(0, 3, 0)  count(5) = 78
            """);
        edges.hold("Promise 20", "6 the snapshots, 7 the states in the history", """
            count(6) = 0  take(1)  count(6) = 1  take(1)  count(6) = 1  take(0)  count(6) = 2  count(7) = 3
            take(0)  take(0)  count(7) = 5  take(0)  count(7) = 5  undo()  count(7) = 4  count(6) = 2
            """);
    }

    private void mouth() {
        edges.range("Promise 21", "mouth: a mouth", "", "mouth(?, 0)", 0, 0);
        edges.range("Promise 21", "mouth: a mouth", Edges.EIGHT, "mouth(?, 1)", 0, 7);
        edges.range("Promise 21", "what: 0 its opening, 1 its width", Edges.THREE, "mouth(2, ?)", 0, 1);
        edges.hold("Promise 21", "Returns a number of a mouth.", """
            addMouth(9, 0) = 1  mouth(0, 0) = 0  mouth(0, 1) = 4  mouth(1, 0) = 9  mouth(1, 1) = 0  mouth(2, 0) = BAD
            undo()  mouth(1, 0) = BAD
            """);
    }

    private void jump() {
        edges.range("Promise 22", "a: a mouth", Edges.THREE, "jump(?, 1)", 0, 2);
        edges.range("Promise 22", "b: a mouth, perhaps the same", Edges.THREE, "jump(1, ?)", 0, 2);
        edges.range("Promise 22", "a: a mouth", Edges.EIGHT, "jump(?, 7)", 0, 7);
        edges.range("Promise 22", "b: a mouth, perhaps the same", Edges.EIGHT, "jump(7, ?)", 0, 7);
        edges.hold("Promise 22", "perhaps the same", "jump(0, 0) = 0 jump(0, 1) = BAD jump(1, 0) = BAD jump(1, 1) = BAD");
    }

    private void soundAndNumber() {
        edges.range("Promise 23", "kind: 0 to 8", "", "sound(?, 0)", 0, 8);
        edges.range("Promise 23", "what: 0 to 3 as for setSound()", "", "sound(8, ?)", 0, 3);
        edges.range("Promise 24", "what: 0 to 4 as for setNumber()", "", "number(?)", 0, 4);
        edges.hold("Promise 23", "Returns a number of a sound.", """
            setSound(8, 0, 9)  setSound(8, 1, 8)  setSound(8, 2, 7)  setSound(8, 3, 2)  setSound(0, 0, 0)
            sound(8, 0) = 9  sound(8, 1) = 8  sound(8, 2) = 7  sound(8, 3) = 2  sound(0, 0) = 0  sound(0, 1) = 4
            """);
        edges.hold("Promise 24", "Returns a setting.", """
            setNumber(0, 9)  setNumber(1, 2)  setNumber(2, 0)  setNumber(3, 99)  setNumber(4, 20)
            number(0) = 9  number(1) = 2  number(2) = 0  number(3) = 99  number(4) = 20
            """);
    }

    private void segment() {
        edges.range("Promise 25", "segment: a segment", "insert(0, 0, 2) insert(0, 0, 2)", "segment(?, 0)", 0, 1);
        edges.range("Promise 25", "segment: a segment", Edges.SEGMENTS_30, "segment(?, 2)", 0, 29);
        edges.range("Promise 25", "what: 0 its kind, .. 2 its first frame", "insert(0, 0, 2)", "segment(0, ?)", 0, 2);
        edges.hold("Promise 25", "INVALID_ARGUMENT if there is no such segment", "segment(0, 0) = BAD segment(-1, 0) = BAD");
        edges.hold("Promise 25", "2 its first frame", Edges.FRAMES_79, """
            insert(4, 9, 19) = 98  insert(5, 8, 1) = 99  segment(0, 2) = 0  segment(1, 2) = 20  segment(4, 2) = 79
            segment(5, 2) = 98  segment(5, 0) = 8  segment(5, 1) = 1  segment(4, 0) = 9  segment(4, 1) = 19  segment(6, 2) = BAD
            """);
    }

    private void frame() {
        edges.range("Promise 26", "frame: a frame", "insert(0, 0, 2) insert(1, 0, 1)", "frame(?, 0)", 0, 2);
        edges.range("Promise 26", "frame: a frame", Edges.FRAMES_99, "frame(?, 6)", 0, 98);
        edges.range("Promise 26", "what: 0 its segment, .. 6 its mouth in the best plan", "insert(0, 0, 1)", "frame(0, ?)", 0, 6);
        edges.hold("Promise 26", "INVALID_ARGUMENT if there is no such frame", """
            frame(0, 0) = BAD  frame(0, 6) = BAD  frame(-1, 4) = BAD  insert(0, 0, 1)  frame(0, 0) = 0  frame(1, 5) = BAD
            remove(0)  frame(0, 0) = BAD
            """);
        edges.hold("Promise 26", "0 its segment, 1 its kind", """
            insert(0, 3, 1)  insert(1, 9, 2)  insert(2, 0, 1)
            frame(0, 0) = 0  frame(1, 0) = 1  frame(2, 0) = 1  frame(3, 0) = 2
            frame(0, 1) = 3  frame(1, 1) = 9  frame(2, 1) = 9  frame(3, 1) = 0
            """);
        edges.hold("Promise 26", "NONE if it is not / if there is none / if there is no allowed plan", Edges.THREE, """
            insert(0, 0, 2)  frame(0, 2) = NONE  frame(0, 3) = NONE  frame(1, 2) = NONE  frame(1, 3) = NONE  frame(1, 6) = 1
            pin(0, 0)  draw(1, 0)  frame(0, 2) = 0  frame(0, 3) = NONE  frame(1, 2) = NONE  frame(1, 3) = 0
            pin(1, 2)  frame(0, 6) = NONE  frame(1, 6) = NONE  frame(0, 2) = 0  frame(0, 4) = 39
            """);
        edges.hold("Promise 26", NO_ERROR, Edges.THREE, """
            insert(0, 0, 2)  pin(0, 0)  pin(1, 2)  frame(2, 6) = BAD  frame(-1, 6) = BAD  frame(0, 7) = BAD  frame(0, 6) = NONE
            """);
        edges.hold("Promise 26", "5 1 if there is a gasp in it and 0 if not", Edges.FRAMES_99, """
            frame(39, 5) = 0  frame(40, 5) = 1  frame(98, 5) = 1  frame(39, 4) = 0  frame(98, 4) = 0  frame(38, 4) = 1
            """);
    }

    private void wrongness() {
        String two = Edges.THREE + "insert(0, 0, 1) insert(1, 9, 1)\n";
        edges.range("Promise 27", "frame: a frame", two, "wrongness(?, 0)", 0, 1);
        edges.range("Promise 27", "mouth: a mouth", two, "wrongness(0, ?)", 0, 2);
        edges.range("Promise 27", "mouth: a mouth", Edges.EIGHT + "insert(0, 9, 1)", "wrongness(0, ?)", 0, 7);
        edges.range("Promise 27", "frame: a frame", Edges.FRAMES_99, "wrongness(?, 0)", 0, 98);
        edges.hold("Promise 27", NO_SUCH_FRAME, "wrongness(0, 0) = BAD insert(0, 0, 1) wrongness(0, 0) = 3 wrongness(0, 1) = BAD");
        edges.hold("Promise 27", "Returns the wrongness", two, """
            wrongness(0, 0) = 3  wrongness(0, 1) = 0  wrongness(0, 2) = 3  wrongness(1, 0) = 45  wrongness(1, 1) = 18
            wrongness(1, 2) = 0  pin(0, 2)  wrongness(0, 0) = 3        # whatever the frame is pinned to
            """);
    }

    private void least() {
        edges.range("Promise 28", "way: 0 or 1", "", "least(?)", 0, 1);
        edges.hold("Promise 28", "NONE if there is no allowed plan", Edges.THREE, """
            insert(0, 0, 2)  pin(0, 0)  pin(1, 2)  least(0) = NONE  least(1) = NONE  least(2) = BAD  least(-1) = BAD
            pin(1, 1)  least(0) = 3  least(1) = 3
            """);
        edges.hold("Promise 28", "0 or 1 (both tell the same)", Edges.EIGHT, """
            setNumber(1, 3)  setNumber(0, 2)  insert(0, 0, 4)  insert(1, 9, 3)  insert(2, 1, 5)  insert(3, 2, 3)
            setSound(0, 0, 0)  setSound(1, 0, 7)  setSound(1, 2, 2)  setSound(2, 0, 1)  pin(0, 0)
            least(0) = 92  least(1) = 92              # 0 to frame 2, 2 to frame 5, 4 to frame 8, 6 to frame 11, and 4
            setNumber(1, 1)  least(0) = 10  least(1) = 10  pin(14, 7)  least(0) = 18  least(1) = 18
            """);
        edges.hold("Promise 28", "Returns the sum of wrongness of the best plan.", Edges.SEGMENTS_30, Edges.EIGHT, """
            least(0) = 0  least(1) = 0  pin(29, 0)  setNumber(1, 2)  least(0) = 3  least(1) = 3  leastWith(28, 0) = 6
            frame(28, 6) = 3  frame(29, 6) = 0
            """);
        edges.hold("Promise 28", "Returns the sum of wrongness of the best plan.", Edges.FRAMES_99, Edges.EIGHT, """
            setNumber(0, 1)  setNumber(1, 3)  pin(0, 0)  pin(98, 7)  least(0) = 40  least(1) = 40
            setNumber(1, 1)  least(0) = 16  least(1) = 16
            """);
    }

    private void leastWith() {
        String two = Edges.THREE + "insert(0, 0, 2)\n";
        edges.range("Promise 29", "frame: a frame", two, "leastWith(?, 1)", 0, 1);
        edges.range("Promise 29", "mouth: a mouth", two, "leastWith(0, ?)", 0, 2);
        edges.range("Promise 29", "frame: a frame", Edges.FRAMES_99, "leastWith(?, 0)", 0, 98);
        edges.range("Promise 29", "mouth: a mouth", Edges.EIGHT + "insert(0, 0, 1)", "leastWith(0, ?)", 0, 7);
        edges.hold("Promise 29", NO_SUCH_FRAME, "leastWith(0, 0) = BAD insert(0, 0, 1) leastWith(0, 1) = BAD leastWith(0, 0) = 3");
        edges.hold("Promise 29", "NONE if there is no such plan", two, """
            leastWith(0, 0) = 3  leastWith(0, 1) = 0  leastWith(0, 2) = 3  leastWith(1, 2) = 3
            pin(0, 0)  leastWith(0, 0) = 3  leastWith(0, 1) = NONE  leastWith(0, 2) = NONE     # pinned to another
            leastWith(1, 0) = 6  leastWith(1, 1) = 3  leastWith(1, 2) = NONE                   # too far for the speed
            setNumber(0, 6)  leastWith(1, 2) = 6  setNumber(0, 5)  leastWith(1, 2) = NONE
            least(0) = 3  count(3) = 1
            """);
        edges.hold("Promise 29", NO_ERROR, two, """
            pin(0, 0)  pin(1, 2)  leastWith(2, 0) = BAD  leastWith(-1, 0) = BAD  leastWith(0, 3) = BAD  leastWith(0, -1) = BAD
            leastWith(0, 0) = NONE  leastWith(1, 2) = NONE  leastWith(1, 1) = NONE
            """);
        edges.hold("Promise 29", "Returns the least sum of wrongness", Edges.FRAMES_99, Edges.THREE, """
            leastWith(98, 0) = 3  leastWith(0, 0) = 3  leastWith(50, 0) = 3  leastWith(98, 2) = 3  leastWith(98, 1) = 0
            pin(0, 0)  leastWith(1, 2) = NONE  leastWith(2, 2) = 6
            """);
    }

    private void leastWithHold() {
        edges.hold("Promise 29", "that an allowed plan has that has a mouth in a frame", Edges.THREE, """
            insert(0, 0, 5)  setNumber(1, 2)
            leastWith(0, 0) = 6  leastWith(1, 0) = 6  leastWith(2, 0) = 6  leastWith(3, 0) = 6
            leastWith(4, 0) = 3                              # the last run may be short
            setNumber(1, 3)  leastWith(4, 0) = 3  leastWith(3, 0) = 6  leastWith(2, 0) = 9  leastWith(0, 0) = 9
            """);
    }

    private void whyErrors() {
        String two = Edges.THREE + "insert(0, 0, 2)\n";
        edges.range("Promise 30", "frame: a frame", two, "why(?)", 0, 1);
        edges.range("Promise 30", "frame: a frame", Edges.FRAMES_99, "why(?)", 0, 98);
        edges.hold("Promise 30", "INVALID_ARGUMENT if there is no such frame", "why(0) = BAD why(-1) = BAD");
        edges.hold("Promise 30", NO_ERROR, two, """
            pin(0, 0)  pin(1, 2)  why(0) = NONE  why(1) = NONE  why(2) = BAD  why(-1) = BAD
            pin(1, 1)  why(0) = 1  why(1) = 0
            """);
    }

    private void whyPinned() {
        edges.hold("Promise 30", "Returns 0 if its mouth in the best plan is as little wrong as the rival", Edges.THREE, """
            insert(0, 0, 1)  why(0) = 0  pin(0, 1)  why(0) = 0     # pinned, but to the least wrong one
            pin(0, 0)  why(0) = 1  pin(0, 2)  why(0) = 1
            setMouth(1, 9, 9)  why(0) = 0                          # as little wrong as mouth 0
            setSound(0, 2, 0)  pin(0, 1)  why(0) = 0               # without weight each is
            """);
        edges.hold("Promise 30", "the first of these: 1 the frame is pinned", Edges.THREE, """
            insert(0, 0, 3)  setSound(0, 0, 6)  pin(0, 0)  pin(1, 0)  pin(2, 0)
            why(0) = 1  why(1) = 1  why(2) = 1                     # also if the rival is too far away
            pin(1, -1)  why(1) = 2
            """);
    }

    private void whyJumps() {
        String ahead = "2 the jump to the rival from the mouth of the frame ahead (if there is one) is greater than the speed";
        String next = "3 the jump from the rival to the mouth of the next frame (if there is one) is greater than the speed";
        edges.hold("Promise 30", ahead, Edges.THREE, """
            insert(0, 0, 3)  setSound(0, 0, 6)  pin(0, 0)  pin(2, 0)
            frame(1, 6) = 1  why(1) = 2                            # from 0, and to 0: the one ahead comes first
            pin(2, -1)  frame(1, 6) = 1  frame(2, 6) = 2  why(1) = 2  why(2) = 0
            setNumber(0, 5)  why(1) = 2
            setNumber(0, 6)  why(1) = 0  frame(1, 6) = 2
            """);
        edges.hold("Promise 30", next, Edges.THREE, """
            insert(0, 0, 2)  setSound(0, 0, 6)  pin(1, 0)
            frame(0, 6) = 1  why(0) = 3                            # there is no frame ahead
            setNumber(0, 5)  why(0) = 3  setNumber(0, 6)  why(0) = 0  frame(0, 6) = 2
            """);
        edges.hold("Promise 30", next, """
            addMouth(3, 4) = 1  addMouth(0, 3) = 2  addMouth(0, 0) = 3  insert(0, 0, 3)  pin(0, 0)  pin(2, 3)
            frame(1, 6) = 2  why(1) = 3        # just the speed from the one ahead, one more to the next
            setNumber(1, 3)  why(1) = NONE
            """);
        edges.hold("Promise 30", next, Edges.THREE, """
            insert(0, 0, 2)  insert(1, 1, 2)  setSound(0, 0, 0)  setSound(1, 0, 6)  setSound(0, 2, 2)
            frame(1, 6) = 0  frame(2, 6) = 1  frame(3, 6) = 2
            why(0) = 0  why(1) = 0  why(2) = 2  why(3) = 0
            setSound(0, 2, 1)  setSound(1, 2, 2)  frame(0, 6) = 0  frame(1, 6) = 1  frame(2, 6) = 2
            why(0) = 0  why(1) = 3  why(2) = 0  why(3) = 0
            """);
    }

    private void whyNone() {
        edges.hold("Promise 30", "4 none of these", Edges.THREE, """
            insert(0, 0, 3)  setNumber(1, 2)  pin(0, 0)  pin(2, 0)
            frame(1, 6) = 0  why(1) = 4        # both jumps are just the speed; the hold is the reason
            setNumber(0, 4)  why(1) = 4        # ... and less than the speed
            setNumber(0, 2)  why(1) = 2
            setNumber(0, 3)  setNumber(1, 1)  why(1) = 0
            """);
        edges.hold("Promise 30", "4 none of these", Edges.THREE, """
            insert(0, 0, 2)  setNumber(1, 2)  pin(0, 0)  frame(1, 6) = 0  why(1) = 4      # there is no next frame
            pin(0, -1)  pin(1, 0)  frame(0, 6) = 0  why(0) = 4                            # there is no frame ahead
            """);
        edges.hold("Promise 30", "the next frame (if there is one)", """
            setMouth(0, 9, 4)  addMouth(0, 4) = 1  addMouth(3, 4) = 2  insert(0, 0, 2)  setNumber(1, 2)  pin(0, 1)
            frame(1, 6) = 1  why(1) = 4        # the rival is far from mouth 0
            insert(1, 1, 1)  setMouth(2, 2, 4)  pin(2, 0)  why(0) = NONE  remove(1) = 2
            why(1) = 4                         # nor is a frame looked at that is there no more
            """);
        edges.hold("Promise 30", "the frame ahead (if there is one)", """
            setMouth(0, 9, 4)  addMouth(0, 4) = 1  addMouth(3, 4) = 2  insert(0, 0, 2)  setNumber(1, 2)  pin(1, 1)
            frame(0, 6) = 1  why(0) = 4
            """);
        edges.hold("Promise 30", "why the best plan does not have a less wrong mouth", Edges.THREE, """
            insert(0, 0, 3)  setSound(0, 0, 6)  pin(0, 0)  draw(0, 2)  draw(1, 2)  draw(2, 2)
            frame(0, 6) = 0  frame(1, 6) = 1  frame(2, 6) = 2
            why(0) = 1  why(1) = 2  why(2) = 0             # whatever is drawn
            """);
    }

    private void whyRivals() {
        String sentence = "The rival is the mouth with the least wrongness in that frame, of several ones the smallest number.";
        edges.hold("Promise 30", sentence, """
            addMouth(2, 4) = 1  addMouth(4, 4) = 2  insert(0, 0, 2)  setNumber(1, 2)  pin(0, 0)
            frame(1, 6) = 0  why(1) = 4        # mouth 1 is near enough, mouth 2 is not
            setMouth(1, 4, 4)  setMouth(2, 2, 4)  frame(1, 6) = 0  why(1) = 2
            setMouth(2, 3, 4)  why(1) = 4      # the least wrong one, though of a greater number
            setMouth(2, 9, 4)  why(1) = 2
            """);
        edges.hold("Promise 30", sentence, """
            insert(0, 0, 1)  setSound(0, 0, 0)  setSound(0, 1, 0)  why(0) = 0      # the only mouth there is
            addMouth(0, 0) = 1  pin(0, 0)  why(0) = 1  undo()  undo()  why(0) = 0
            """);
        edges.hold("Promise 30", sentence, Edges.EIGHT, """
            insert(0, 0, 2)  why(0) = 0  why(1) = 0  setSound(0, 0, 9)  why(0) = 0  frame(0, 6) = 7  pin(0, 0)  why(1) = 2
            """);
    }

    private void faultErrors() {
        edges.range("Promise 31", "what: 0 the frame, 1 the reason, 1 to 4", "", "fault(?)", 0, 1);
        edges.range("Promise 31", "what: 0 the frame, 1 the reason, 1 to 4", "insert(0, 0, 1)", "fault(?)", 0, 1);
        edges.hold("Promise 31", "NONE if there is no fault", """
            fault(0) = NONE  fault(1) = NONE  fault(2) = BAD  fault(-1) = BAD      # without frames, too
            insert(0, 0, 1)  fault(0) = 0  fault(1) = 1  draw(0, 0)  fault(0) = NONE  fault(1) = NONE  fault(2) = BAD
            """);
    }

    private void faultOrder() {
        String sentence = "the first frame in which there is, looked for in this order";
        edges.hold("Promise 31", sentence, Edges.THREE, """
            insert(0, 0, 3)  setNumber(1, 2)  draw(0, 0)  draw(1, 2)  pin(1, 1)  pin(2, 0)
            fault(0) = 1  fault(1) = 2        # not 3 and 4, nor the next frame's 1
            pin(1, 2)  fault(0) = 1  fault(1) = 3
            setNumber(0, 6)  fault(0) = 1  fault(1) = 4
            setNumber(1, 1)  fault(0) = 2  fault(1) = 1        # pinned, but not drawn
            draw(2, 1)  fault(0) = 2  fault(1) = 2
            draw(2, 0)  fault(0) = NONE
            draw(1, -1)  fault(0) = 1  fault(1) = 1
            pin(0, 1)  fault(0) = 0  fault(1) = 2
            draw(0, -1)  fault(0) = 0  fault(1) = 1
            """);
        edges.hold("Promise 31", sentence, Edges.FRAMES_99, """
            finish()  fault(0) = NONE  draw(98, -1)  fault(0) = 98  fault(1) = 1  draw(0, -1)  fault(0) = 0
            """);
        edges.hold("Promise 31", "2 another mouth drawn than the one to which it is pinned", Edges.THREE, """
            insert(0, 0, 2)  draw(0, 1)  draw(1, 1)  pin(0, 1)  fault(0) = NONE  pin(1, 1)  fault(0) = NONE
            pin(1, 0)  fault(0) = 1  fault(1) = 2  pin(0, 0)  fault(0) = 0  fault(1) = 2
            """);
        edges.hold("Promise 31", "2 another mouth drawn than the one to which it is pinned", """
            addMouth(0, 4) = 1  insert(0, 0, 1)  draw(0, 1)  pin(0, 0)  fault(0) = 0  fault(1) = 2    # of the same shape
            """);
    }

    private void faultJumps() {
        String sentence = "3 a jump from the mouth drawn in the frame ahead that is greater than the speed";
        edges.hold("Promise 31", sentence, Edges.THREE, """
            insert(0, 0, 2)  insert(1, 1, 1)  draw(0, 0)  draw(1, 1)  draw(2, 2)  fault(0) = NONE     # just the speed
            setNumber(0, 2)  fault(0) = 1  fault(1) = 3
            draw(1, 0)  fault(0) = 2  fault(1) = 3  setNumber(0, 5)  fault(0) = 2  setNumber(0, 6)  fault(0) = NONE
            draw(0, 2)  draw(2, 0)  fault(0) = NONE  setNumber(0, 5)  fault(0) = 1  fault(1) = 3
            """);
        edges.hold("Promise 31", sentence, """
            addMouth(0, 9) = 1  insert(0, 0, 2)  draw(0, 0)  draw(1, 1)  fault(0) = 1  fault(1) = 3   # by the width
            setNumber(0, 5)  fault(0) = NONE
            """);
    }

    private void faultHold() {
        String sentence = "4 another mouth drawn than in the frame ahead, with which the run of the mouth ahead ends too soon "
            + "for the hold";
        edges.hold("Promise 31", sentence, Edges.THREE, """
            insert(0, 0, 5)  draw(0, 0)  draw(1, 1)  draw(2, 1)  draw(3, 1)  draw(4, 0)  fault(0) = NONE
            setNumber(1, 2)  fault(0) = 1  fault(1) = 4
            draw(1, 0)  fault(0) = NONE                    # two and two, and the last run of one
            setNumber(1, 3)  fault(0) = 2  fault(1) = 4
            draw(2, 0)  fault(0) = 4  fault(1) = 4         # three, and one that ends in frame 4
            draw(4, 1)  fault(0) = NONE                    # the last run is too short, and goes on to the end
            draw(0, 1)  draw(1, 1)  draw(2, 1)  fault(0) = NONE
            """);
        edges.hold("Promise 31", sentence, Edges.THREE, """
            insert(0, 0, 4)  setNumber(1, 2)  draw(0, 1)  draw(1, 1)  draw(2, 0)  draw(3, 1)
            fault(0) = 3  fault(1) = 4                     # the run amid is counted from its own first frame
            draw(0, 0)  draw(1, 0)  draw(2, 1)  draw(3, 0)  fault(0) = 3  fault(1) = 4
            draw(3, 1)  fault(0) = NONE
            """);
        edges.hold("Promise 31", sentence, """
            addMouth(0, 4) = 1  insert(0, 0, 3)  draw(0, 0)  draw(1, 1)  draw(2, 0)  fault(0) = NONE
            setNumber(1, 2)  fault(0) = 1  fault(1) = 4    # of the same shape, but another mouth
            draw(1, 0)  draw(2, 1)  fault(0) = NONE
            stretch(0, 4)  draw(3, 0)  fault(0) = 3  fault(1) = 4     # its run does not begin with its twin's
            draw(3, 1)  fault(0) = NONE
            """);
        edges.hold("Promise 31", sentence, Edges.THREE, """
            setNumber(1, 3)  insert(0, 0, 1)  insert(1, 1, 2)  insert(2, 2, 1)
            draw(0, 0)  draw(1, 0)  draw(2, 0)  draw(3, 1)  fault(0) = NONE     # over the ends of segments
            draw(2, 1)  fault(0) = 2  fault(1) = 4
            """);
    }

    private void drawnSum() {
        edges.hold("Promise 32", "NONE if a frame is not drawn", Edges.THREE, """
            drawnSum() = 0  insert(0, 0, 3)  drawnSum() = NONE  draw(0, 0)  draw(1, 1)  drawnSum() = NONE
            draw(2, 2)  drawnSum() = 6  draw(0, -1)  drawnSum() = NONE  draw(0, 2)  draw(1, -1)  drawnSum() = NONE
            draw(1, 0)  drawnSum() = 9  insert(0, 9, 1)  drawnSum() = NONE  draw(0, 0)  drawnSum() = 54
            """);
        edges.hold("Promise 32", "Returns the sum of wrongness of all drawn mouths in their frames.", Edges.THREE, """
            insert(0, 0, 1)  insert(1, 9, 1)  draw(0, 0)  draw(1, 0)  pin(0, 1)  drawnSum() = 48  setNumber(2, 0)  drawnSum() = 3
            setSound(0, 2, 0)  drawnSum() = 0          # neither pins nor jumps are looked at
            """);
        edges.hold("Promise 32", "NONE if a frame is not drawn", Edges.FRAMES_99, """
            finish() = 297  drawnSum() = 297  draw(98, -1)  drawnSum() = NONE  draw(98, 0)  drawnSum() = 297
            """);
    }

    private void speedFor() {
        edges.range("Promise 33", "limit: 0 to 99999", "", "speedFor(?)", 0, 99999);
        edges.range("Promise 33", "limit: 0 to 99999", "insert(0, 0, 1) setSound(0, 2, 0)", "speedFor(?)", 0, 99999);
        edges.hold("Promise 33", NO_ERROR, Edges.THREE, """
            insert(0, 0, 2)  pin(0, 0)  speedFor(2) = NONE  speedFor(3) = 3  speedFor(5) = 3  speedFor(6) = 1
            setNumber(1, 3)  pin(1, 2)  speedFor(99999) = NONE  speedFor(100000) = BAD  speedFor(-1) = BAD
            """);
        edges.hold("Promise 33", "whose sum of wrongness is not greater than a limit", """
            insert(0, 0, 1)  speedFor(0) = NONE  speedFor(2) = NONE  speedFor(3) = 1  speedFor(4) = 1  speedFor(99999) = 1
            """);
        edges.hold("Promise 33", "Returns the speed, 1 to 9", """
            addMouth(9, 4) = 1  insert(0, 0, 2)  pin(0, 0)  pin(1, 1)
            speedFor(9) = 9  speedFor(8) = NONE  speedFor(99999) = 9  setMouth(1, 8, 4)  speedFor(99999) = 8
            setMouth(1, 1, 4)  speedFor(99999) = 1  setMouth(1, 2, 4)  speedFor(99999) = 2  setMouth(1, 0, 4)  speedFor(99999) = 1
            number(0) = 3
            """);
        edges.hold("Promise 33", "the least speed", Edges.THREE, """
            insert(0, 0, 1)  insert(1, 1, 1)  setSound(0, 0, 0)  setSound(1, 0, 6)
            speedFor(0) = 6  speedFor(2) = 6  speedFor(3) = 3  speedFor(5) = 3  speedFor(6) = 1
            setNumber(0, 1)  speedFor(0) = 6  speedFor(3) = 3  setNumber(0, 9)  speedFor(6) = 1  least(0) = 0
            """);
    }

    private void speedForHold() {
        edges.hold("Promise 33", "all else as it is", Edges.THREE, """
            insert(0, 0, 2)  pin(0, 0)  speedFor(3) = 3  setNumber(1, 2)  speedFor(5) = NONE  speedFor(6) = 1
            setNumber(1, 1)  pin(1, 0)  speedFor(5) = NONE  speedFor(6) = 1  pin(1, 2)  speedFor(6) = 6  speedFor(5) = NONE
            """);
    }

    private void nearest() {
        edges.range("Promise 34", "opening: 0 to 9", Edges.THREE, "nearest(?, 4)", 0, 9);
        edges.range("Promise 34", "width: 0 to 9", Edges.THREE, "nearest(4, ?)", 0, 9);
        edges.hold("Promise 34", "the greater one of its differences from them (without sign) is the least; of several ones "
            + "the smallest number", """
            nearest(0, 0) = 0  nearest(9, 9) = 0
            addMouth(9, 9) = 1  addMouth(9, 0) = 2  addMouth(0, 9) = 3  addMouth(4, 4) = 4  addMouth(4, 4) = 5
            nearest(0, 0) = 0  nearest(9, 9) = 1  nearest(9, 0) = 2  nearest(0, 9) = 3  nearest(4, 4) = 4
            nearest(2, 4) = 0  nearest(3, 4) = 4     # as near: the smallest number; one step more
            nearest(7, 7) = 1  nearest(6, 7) = 1  nearest(6, 6) = 4  nearest(7, 2) = 2  nearest(2, 7) = 3
            """);
        edges.hold("Promise 34", "of several ones the smallest number", Edges.EIGHT, """
            setMouth(7, 0, 9)  setMouth(6, 0, 9)  nearest(0, 9) = 6  setMouth(0, 0, 9)  nearest(0, 9) = 0  nearest(9, 0) = 5
            setMouth(7, 9, 0)  nearest(9, 0) = 7
            """);
    }
}
