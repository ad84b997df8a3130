/** The boundary cases of the promises 1 to 16: a new object, the actions but load(), and undo(). */
public final class EdgesOfActionsTest {
    private static final String NO_SUCH_SEGMENT = "INVALID_ARGUMENT if there is no such segment";
    private static final String NO_SUCH_FRAME = "INVALID_ARGUMENT if there is no such frame or mouth";
    private static final String OUT_OF_RANGE = "INVALID_ARGUMENT if an argument is out of range";
    private static final String LISTS_FIRST =
        "If several error conditions apply, the method returns the one that its description lists first";

    private final Edges edges = new Edges();

    public static void main(String[] args) {
        EdgesOfActionsTest test = new EdgesOfActionsTest();
        test.newObject();
        test.addMouth();
        test.setMouth();
        test.setSound();
        test.setNumber();
        test.insert();
        test.insertIntoAFullTable();
        test.remove();
        test.stretch();
        test.pinAndDraw("Promise 9", "pin", 2, 3);
        test.pinAndDraw("Promise 10", "draw", 3, 4);
        test.betweenErrors();
        test.betweenEnds();
        test.betweenRounding();
        test.betweenNearest();
        test.finish();
        test.breathe();
        test.breatheErrors();
        test.breatheWithoutRoom();
        test.take();
        test.restore();
        test.undo();
        test.history();
        test.historyOfSnapshots();
        test.edges.end();
    }

    private void newObject() {
        edges.hold("Promise 1", "Creates an object with one mouth and without segments and snapshots, with an empty text.", """
            count(0) = 1  count(1) = 0  count(2) = 0  count(3) = 0  count(4) = 0  count(5) = 0  count(6) = 0  count(7) = 0
            count(8) = 0  mouth(0, 0) = 0  mouth(0, 1) = 4  mouth(1, 0) = BAD  segment(0, 0) = BAD  frame(0, 0) = BAD
            restore(0) = STATE  restore(1) = STATE  undo() = STATE  clearText() = 0  load() = 0  count(1) = 0
            """);
    }

    private void addMouth() {
        edges.range("Promise 2", "opening: 0 to 9", "", "addMouth(?, 4)", 0, 9);
        edges.range("Promise 2", "width: 0 to 9", "", "addMouth(4, ?)", 0, 9);
        edges.hold("Promise 2", "Returns the number of the mouth", """
            addMouth(0, 0) = 1  addMouth(9, 9) = 2  mouth(1, 0) = 0  mouth(1, 1) = 0  mouth(2, 0) = 9  mouth(2, 1) = 9
            undo()  addMouth(5, 6) = 2  mouth(2, 0) = 5  mouth(2, 1) = 6
            """);
        edges.hold("Promise 2", "CAPACITY_EXCEEDED if there are 8 mouths", """
            addMouth(1, 1) = 1  addMouth(2, 2) = 2  addMouth(3, 3) = 3  addMouth(4, 4) = 4  addMouth(5, 5) = 5
            addMouth(6, 6) = 6  addMouth(7, 7) = 7  addMouth(8, 8) = FULL  addMouth(0, 0) = FULL
            mouth(7, 0) = 7  mouth(0, 0) = 0  count(7) = 5  undo() = 4  addMouth(8, 8) = 7  addMouth(9, 9) = FULL
            """);
        edges.hold("Promise 2", LISTS_FIRST, Edges.EIGHT, """
            addMouth(10, 0) = BAD  addMouth(0, 10) = BAD  addMouth(-1, 0) = BAD  addMouth(0, -1) = BAD  addMouth(9, 9) = FULL
            """);
    }

    private void setMouth() {
        edges.range("Promise 3", "mouth: a mouth", "", "setMouth(?, 1, 1)", 0, 0);
        edges.range("Promise 3", "mouth: a mouth", Edges.THREE, "setMouth(?, 1, 1)", 0, 2);
        edges.range("Promise 3", "mouth: a mouth", Edges.EIGHT, "setMouth(?, 1, 1)", 0, 7);
        edges.range("Promise 3", "opening: 0 to 9", Edges.THREE, "setMouth(2, ?, 1)", 0, 9);
        edges.range("Promise 3", "width: 0 to 9", Edges.THREE, "setMouth(2, 1, ?)", 0, 9);
        edges.hold("Promise 3", "Returns the jump between the mouth as it was and as it is", """
            setMouth(0, 0, 4) = 0  setMouth(0, 9, 4) = 9  setMouth(0, 0, 0) = 9  setMouth(0, 2, 9) = 9  setMouth(0, 5, 8) = 3
            setMouth(0, 4, 4) = 4  setMouth(0, 7, 1) = 3  mouth(0, 0) = 7  mouth(0, 1) = 1
            """);
        edges.hold("Promise 3", "Changes a mouth.", Edges.THREE, """
            setMouth(1, 9, 0) = 6  mouth(0, 0) = 0  mouth(0, 1) = 4  mouth(2, 0) = 6  mouth(2, 1) = 4
            mouth(1, 0) = 9  mouth(1, 1) = 0  count(0) = 3
            """);
    }

    private void setSound() {
        edges.range("Promise 4", "kind: 0 to 8", "", "setSound(?, 0, 1)", 0, 8);
        edges.range("Promise 4", "what: 0 the opening that it wants, .. 3 its use of air", "", "setSound(1, ?, 1)", 0, 3);
        edges.range("Promise 4", "value: in the range", "", "setSound(0, 0, ?)", 0, 9);
        edges.range("Promise 4", "value: in the range", "", "setSound(8, 1, ?)", 0, 9);
        edges.range("Promise 4", "value: in the range", "", "setSound(0, 2, ?)", 0, 9);
        edges.range("Promise 4", "value: in the range", "", "setSound(8, 3, ?)", 0, 3);
        edges.hold("Promise 4", "Returns the previous value", """
            setSound(8, 0, 9) = 3  setSound(8, 0, 0) = 9  setSound(8, 0, 0) = 0  setSound(8, 0, 10) = BAD  setSound(8, 0, 1) = 0
            setSound(0, 3, 3) = 1  setSound(0, 3, 0) = 3  setSound(0, 1, 9) = 4  setSound(0, 2, 9) = 1  setSound(0, 2, 0) = 9
            sound(0, 0) = 3  sound(0, 1) = 9  sound(0, 2) = 0  sound(0, 3) = 0  sound(8, 0) = 1  sound(8, 1) = 4
            sound(1, 0) = 3  sound(7, 3) = 1
            """);
    }

    private void setNumber() {
        edges.range("Promise 5", "what: 0 the speed, .. 4 the gain", "", "setNumber(?, 1)", 0, 4);
        edges.range("Promise 5", "value: in the range", "", "setNumber(0, ?)", 1, 9);
        edges.range("Promise 5", "value: in the range", "", "setNumber(1, ?)", 1, 3);
        edges.range("Promise 5", "value: in the range", "", "setNumber(2, ?)", 0, 9);
        edges.range("Promise 5", "value: in the range", "", "setNumber(3, ?)", 1, 99);
        edges.range("Promise 5", "value: in the range", "", "setNumber(4, ?)", 1, 20);
        edges.hold("Promise 5", "Returns the previous value", """
            setNumber(3, 99) = 40  setNumber(3, 1) = 99  setNumber(3, 1) = 1  setNumber(3, 0) = BAD  setNumber(3, 2) = 1
            setNumber(2, 0) = 5  setNumber(2, 9) = 0  setNumber(0, 9) = 3  setNumber(1, 3) = 1  setNumber(4, 20) = 8
            number(0) = 9  number(1) = 3  number(2) = 9  number(3) = 2  number(4) = 20
            """);
    }

    private void insert() {
        edges.range("Promise 6", "place: its number then, from 0 to the number of segments", "", "insert(?, 0, 1)", 0, 0);
        edges.range("Promise 6", "place: its number then, from 0 to the number of segments",
            "insert(0, 1, 2) insert(1, 2, 2)", "insert(?, 0, 1)", 0, 2);
        edges.range("Promise 6", "place: its number then, from 0 to the number of segments",
            Edges.SEGMENTS_29, "insert(?, 0, 1)", 0, 29);
        edges.range("Promise 6", "kind: 0 to 9", "", "insert(0, ?, 1)", 0, 9);
        edges.range("Promise 6", "frames: 1 to 20", "", "insert(0, 0, ?)", 1, 20);
        edges.hold("Promise 6", "place: its number then", """
            insert(0, 1, 2) = 2  insert(1, 2, 3) = 5  insert(0, 3, 4) = 9  insert(1, 4, 5) = 14  insert(4, 5, 1) = 15
            segment(0, 0) = 3  segment(1, 0) = 4  segment(2, 0) = 1  segment(3, 0) = 2  segment(4, 0) = 5  count(1) = 5
            segment(0, 1) = 4  segment(1, 1) = 5  segment(2, 1) = 2  segment(3, 1) = 3  segment(4, 1) = 1
            segment(0, 2) = 0  segment(1, 2) = 4  segment(2, 2) = 9  segment(3, 2) = 11  segment(4, 2) = 14
            """);
    }

    private void insertIntoAFullTable() {
        edges.hold("Promise 6", "CAPACITY_EXCEEDED if there are 30 segments", Edges.SEGMENTS_29, """
            insert(29, 3, 1) = 30  insert(30, 3, 1) = FULL  insert(0, 3, 1) = FULL  insert(0, 3, 20) = FULL  count(1) = 30
            """);
        edges.hold("Promise 6", "CAPACITY_EXCEEDED if .. there would be more than 99 frames", Edges.FRAMES_79, """
            insert(0, 9, 20) = 99  insert(0, 9, 1) = FULL  insert(5, 9, 20) = FULL  count(1) = 5  count(2) = 99
            """);
        edges.hold("Promise 6", "CAPACITY_EXCEEDED if .. there would be more than 99 frames", Edges.FRAMES_79, """
            insert(4, 0, 1) = 80  insert(0, 9, 20) = FULL  insert(0, 9, 19) = 99  insert(6, 9, 1) = FULL
            """);
        edges.hold("Promise 6", LISTS_FIRST, Edges.SEGMENTS_30, """
            insert(31, 0, 1) = BAD  insert(-1, 0, 1) = BAD  insert(0, 10, 1) = BAD  insert(0, -1, 1) = BAD
            insert(0, 0, 0) = BAD  insert(0, 0, 21) = BAD  insert(0, 0, 20) = FULL
            """);
        edges.hold("Promise 6", LISTS_FIRST, Edges.FRAMES_99, """
            insert(6, 0, 1) = BAD  insert(-1, 0, 1) = BAD  insert(0, 10, 1) = BAD  insert(0, -1, 1) = BAD
            insert(0, 0, 0) = BAD  insert(0, 0, 21) = BAD  insert(5, 0, 20) = FULL
            """);
    }

    private void remove() {
        edges.range("Promise 7", "segment: a segment", "insert(0, 0, 2)", "remove(?)", 0, 0);
        edges.range("Promise 7", "segment: a segment", "insert(0, 0, 2) insert(0, 0, 2) insert(0, 0, 2)", "remove(?)", 0, 2);
        edges.range("Promise 7", "segment: a segment", Edges.SEGMENTS_30, "remove(?)", 0, 29);
        edges.hold("Promise 7", NO_SUCH_SEGMENT, "remove(0) = BAD remove(-1) = BAD insert(0, 0, 1) remove(0) = 0 remove(0) = BAD");
        edges.hold("Promise 7", "Returns the number of all frames then", """
            insert(0, 1, 1) insert(1, 2, 2) insert(2, 3, 3) insert(3, 4, 4) insert(4, 5, 5)
            remove(2) = 12  segment(2, 0) = 4  segment(2, 2) = 3  segment(3, 0) = 5
            remove(3) = 7  count(1) = 3  segment(2, 0) = 4       # the last one
            remove(0) = 6  segment(0, 0) = 2  segment(1, 0) = 4  segment(0, 1) = 2  segment(1, 1) = 4
            remove(1) = 2  remove(0) = 0  count(1) = 0  count(2) = 0
            """);
        edges.hold("Promise 7", "Removes a segment.", Edges.SEGMENTS_30, """
            remove(29) = 29  segment(28, 0) = 0  segment(29, 0) = BAD  insert(29, 2, 1) = 30
            """);
        edges.hold("Promise 7", "Removes a segment.", Edges.FRAMES_99, """
            remove(0) = 79  insert(0, 0, 20) = 99  remove(4) = 79  insert(4, 0, 20) = 99  insert(0, 0, 1) = FULL
            """);
    }

    private void stretch() {
        String two = "insert(0, 1, 5) insert(1, 2, 5)\n";
        edges.range("Promise 8", "segment: a segment", two, "stretch(?, 5)", 0, 1);
        edges.range("Promise 8", "segment: a segment", Edges.SEGMENTS_30, "stretch(?, 2)", 0, 29);
        edges.range("Promise 8", "frames: 1 to 20", two, "stretch(0, ?)", 1, 20);
        edges.hold("Promise 8", NO_SUCH_SEGMENT, "stretch(0, 1) = BAD stretch(-1, 1) = BAD");
        edges.hold("Promise 8", "the last ones go, or new ones come behind the others", two, """
            pin(0, 0)  pin(4, 0)  pin(5, 0)  draw(4, 0)  draw(9, 0)
            stretch(0, 6) = 5  frame(4, 2) = 0  frame(4, 3) = 0  frame(5, 2) = NONE  frame(6, 2) = 0  frame(10, 3) = 0
            stretch(0, 5) = 6  count(3) = 3  count(4) = 2  frame(5, 2) = 0  frame(9, 3) = 0
            stretch(0, 4) = 5  count(3) = 2  count(4) = 1  frame(4, 2) = 0  frame(8, 3) = 0
            stretch(0, 1) = 4  frame(0, 2) = 0  frame(1, 2) = 0  frame(5, 3) = 0  count(2) = 6
            stretch(1, 4) = 5  count(4) = 0  count(3) = 2  count(2) = 5
            """);
        edges.hold("Promise 8", "Returns the previous number", two, """
            stretch(1, 20) = 5  stretch(1, 1) = 20  stretch(1, 1) = 1  stretch(1, 21) = BAD  stretch(1, 2) = 1
            segment(0, 1) = 5  segment(1, 1) = 2  count(2) = 7
            """);
        edges.hold("Promise 8", "CAPACITY_EXCEEDED if there would be more than 99 frames", Edges.FRAMES_79,
            "insert(0, 0, 19) = 98\n", """
            stretch(0, 20) = 19  count(2) = 99  stretch(4, 20) = FULL  stretch(4, 19) = 19  stretch(4, 18) = 19  count(2) = 98
            stretch(4, 20) = FULL  stretch(4, 19) = 18  count(2) = 99  stretch(0, 1) = 20  stretch(4, 20) = 19  count(2) = 81
            """);
        edges.hold("Promise 8", LISTS_FIRST, Edges.FRAMES_79, "insert(4, 0, 19) = 98 insert(5, 0, 1) = 99\n", """
            stretch(6, 20) = BAD  stretch(-1, 20) = BAD  stretch(5, 21) = BAD  stretch(5, 0) = BAD  stretch(5, 20) = FULL
            stretch(5, 2) = FULL  stretch(5, 1) = 1
            """);
    }

    /** pin() and draw() answer alike, each of its own mouths; frame() and count() tell them by these numbers. */
    private void pinAndDraw(String promise, String name, int asked, int counted) {
        String two = Edges.THREE + "insert(0, 1, 2) insert(1, 9, 1)\n";
        edges.range(promise, "frame: a frame", two, name + "(?, 0)", 0, 2);
        edges.range(promise, "frame: a frame", Edges.FRAMES_99, name + "(?, 0)", 0, 98);
        edges.range(promise, "mouth: a mouth, or -1", "insert(0, 0, 1)", name + "(0, ?)", -1, 0);
        edges.range(promise, "mouth: a mouth, or -1", two, name + "(2, ?)", -1, 2);
        edges.range(promise, "mouth: a mouth, or -1", Edges.EIGHT + "insert(0, 0, 1)", name + "(0, ?)", -1, 7);
        edges.hold(promise, NO_SUCH_FRAME, "%1$s(0, 0) = BAD %1$s(0, -1) = BAD %1$s(-1, -1) = BAD".formatted(name));
        edges.hold(promise, "NONE if it was not / if there was none", two, """
            %1$s(0, -1) = NONE  %1$s(0, 2) = NONE  %1$s(0, 0) = 2  %1$s(0, 0) = 0
            %1$s(0, 3) = BAD  %1$s(0, -2) = BAD  %1$s(0, -99) = BAD
            %1$s(0, -1) = 0  %1$s(0, -1) = NONE  %1$s(2, 1) = NONE  %1$s(2, 2) = 1  %1$s(3, 2) = BAD
            frame(0, %2$d) = NONE  frame(1, %2$d) = NONE  frame(2, %2$d) = 2  count(%3$d) = 1
            """.formatted(name, asked, counted));
        edges.hold(promise, "Each frame may be pinned to a mouth, and a mouth may be drawn in it", two, """
            %s(1, 2) = NONE  frame(1, %d) = NONE  count(%d) = 0  frame(1, %d) = 2  count(%d) = 1
            """.formatted(name, 5 - asked, 7 - counted, asked, counted));
    }

    private void betweenErrors() {
        String drawn = Edges.THREE + "insert(0, 0, 3) insert(1, 1, 2) draw(0, 0) draw(4, 1)\n";
        String noFrames = "INVALID_ARGUMENT if there are no such frames, or last is not behind first";
        edges.range("Promise 11", "first: a frame", drawn + "draw(3, 0)", "between(?, 4)", 0, 3);
        edges.range("Promise 11", "last: a frame behind first", drawn + "draw(1, 0)", "between(0, ?)", 1, 4);
        edges.hold("Promise 11", noFrames, drawn, """
            between(0, 0) = BAD  between(4, 4) = BAD  between(4, 0) = BAD  between(1, 0) = BAD  between(-1, 0) = BAD
            between(-1, 4) = BAD  between(0, 5) = BAD  between(4, 5) = BAD  between(5, 6) = BAD  between(0, -1) = BAD
            """);
        edges.hold("Promise 11", noFrames, "between(0, 0) = BAD between(0, 1) = BAD between(-1, 0) = BAD");
        edges.hold("Promise 11", "ILLEGAL_STATE if one of them is not drawn", drawn, """
            between(0, 3) = STATE  between(1, 4) = STATE  between(1, 3) = STATE  between(1, 2) = STATE
            draw(0, -1) = 0  between(0, 4) = STATE  draw(0, 0)  draw(4, -1) = 1  between(0, 4) = STATE
            draw(4, 0)  between(0, 4) = 0
            """);
        edges.hold("Promise 11", LISTS_FIRST, Edges.THREE, "insert(0, 0, 2)\n", """
            between(0, 0) = BAD  between(1, 0) = BAD  between(0, 2) = BAD  between(-1, 1) = BAD  between(0, 1) = STATE
            """);
    }

    private void betweenEnds() {
        edges.hold("Promise 11", "Draws inbetweens in all frames between two frames", Edges.THREE, """
            insert(0, 0, 5)  draw(1, 0)  draw(2, 2)  between(1, 2) = 6      # there is none between neighbours
            frame(1, 3) = 0  frame(2, 3) = 2  count(4) = 2
            draw(4, 2)  draw(2, 1)  draw(3, 0)
            between(1, 4) = 3                                               # drawn ones go
            frame(0, 3) = NONE  frame(1, 3) = 0  frame(2, 3) = 1  frame(3, 3) = 1  frame(4, 3) = 2
            """);
        edges.hold("Promise 11", "Draws inbetweens in all frames between two frames", Edges.THREE, Edges.FRAMES_99, """
            draw(0, 0)  draw(98, 2)  between(0, 98) = 0  count(4) = 99
            frame(1, 3) = 0  frame(32, 3) = 0  frame(33, 3) = 1     # the opening 2 is nearer to 3 from frame 33 on
            frame(81, 3) = 1  frame(82, 3) = 2  frame(97, 3) = 2  frame(98, 3) = 2
            """);
        edges.hold("Promise 11", "Draws inbetweens in all frames between two frames", Edges.THREE, """
            insert(0, 0, 3)  pin(1, 2)  draw(0, 0)  draw(2, 0)  between(0, 2) = 0  frame(1, 3) = 0  frame(1, 2) = 2
            """);
        edges.hold("Promise 11", "in all frames between two frames", Edges.THREE, """
            addMouth(3, 4) = 3  insert(0, 0, 6)  draw(1, 3)  draw(4, 3)  between(1, 4) = 0
            frame(0, 3) = NONE  frame(1, 3) = 3  frame(2, 3) = 1  frame(3, 3) = 1  frame(4, 3) = 3  frame(5, 3) = NONE
            """);
        edges.hold("Promise 11", "Returns the jump between the mouths drawn in the frames last - 1 and last then", Edges.THREE, """
            setNumber(0, 2)  insert(0, 0, 4)  draw(0, 0)  draw(3, 2)
            between(0, 3) = 6  frame(1, 3) = 0  frame(2, 3) = 0      # greater than the speed, for none comes nearer
            setNumber(0, 3)  between(0, 3) = 3  frame(2, 3) = 1
            draw(3, 0)  between(0, 3) = 0  frame(2, 3) = 0
            draw(3, 1)  between(2, 3) = 3
            """);
    }

    private void betweenRounding() {
        String lie = "an opening and a width that lie between those of both ends; these are, with a and b for the numbers of "
            + "the mouths at first and last, a + (b - a) * (f - first) / (last - first)";
        edges.hold("Promise 11", lie, Edges.EIGHT, """
            setNumber(0, 9)  insert(0, 0, 6)  draw(1, 0)  draw(5, 7)
            between(1, 5) = 2                                 # 7/4, 14/4, 21/4 are 1, 3, 5
            frame(2, 3) = 1  frame(3, 3) = 3  frame(4, 3) = 5
            draw(1, 7)  draw(5, 0)  between(1, 5) = 2         # 7 - 1, 7 - 3, 7 - 5: rounded toward 0 ahead of the sum
            frame(2, 3) = 6  frame(3, 3) = 4  frame(4, 3) = 2
            """);
        edges.hold("Promise 11", lie, Edges.EIGHT, """
            setNumber(0, 9)  insert(0, 0, 4)  draw(0, 3)  draw(3, 4)
            between(0, 3) = 1  frame(1, 3) = 3  frame(2, 3) = 3     # less than one step stays at the first
            draw(3, 2)  between(0, 3) = 1  frame(1, 3) = 3  frame(2, 3) = 3
            draw(3, 5)  between(0, 3) = 1  frame(1, 3) = 3  frame(2, 3) = 4
            draw(3, 6)  between(0, 3) = 1  frame(1, 3) = 4  frame(2, 3) = 5     # just whole steps
            draw(3, 3)  between(0, 3) = 0  frame(1, 3) = 3  frame(2, 3) = 3
            """);
        edges.hold("Promise 11", lie, """
            setMouth(0, 4, 9)  addMouth(4, 7) = 1  addMouth(4, 5) = 2  addMouth(4, 4) = 3  addMouth(4, 0) = 4
            setNumber(0, 9)  insert(0, 0, 3)  draw(0, 0)  draw(2, 4)
            between(0, 2) = 5  frame(1, 3) = 2                # the width 9 - 4
            draw(0, 4)  draw(2, 0)  between(0, 2) = 5  frame(1, 3) = 3
            """);
        edges.hold("Promise 11", lie, """
            setMouth(0, 0, 9)  addMouth(9, 0) = 1  addMouth(4, 5) = 2  addMouth(5, 4) = 3  addMouth(4, 4) = 4
            setNumber(0, 9)  insert(0, 0, 3)  draw(0, 0)  draw(2, 1)
            between(0, 2) = 5  frame(1, 3) = 2                # the opening 0 + 4 and the width 9 - 4
            draw(0, 1)  draw(2, 0)  between(0, 2) = 5  frame(1, 3) = 3
            """);
        edges.hold("Promise 11", lie, """
            setMouth(0, 4, 0)  addMouth(4, 2) = 1  addMouth(4, 4) = 2  addMouth(4, 6) = 3  addMouth(4, 8) = 4
            setNumber(0, 9)  insert(0, 0, 8)  draw(3, 0)  draw(7, 4)
            between(3, 7) = 2  frame(4, 3) = 1  frame(5, 3) = 2  frame(6, 3) = 3       # not from frame 0, by the width
            """);
    }

    private void betweenNearest() {
        edges.hold("Promise 11", "of all mouths whose jump from the mouth drawn in frame f - 1 is at most the speed", """
            setMouth(0, 0, 0)  addMouth(4, 0) = 1  addMouth(8, 0) = 2  insert(0, 0, 4)  draw(0, 0)  draw(3, 2)
            setNumber(0, 3)  between(0, 3) = 8  frame(1, 3) = 0  frame(2, 3) = 0       # 4 is one too far
            setNumber(0, 4)  between(0, 3) = 4  frame(1, 3) = 0  frame(2, 3) = 1       # just near enough
            draw(1, 1)  between(0, 3) = 4  frame(1, 3) = 0                             # what was drawn there is gone
            setNumber(0, 9)  draw(0, 2)  draw(3, 0)  between(0, 3) = 4  frame(1, 3) = 1  frame(2, 3) = 1
            """);
        edges.hold("Promise 11", "of all mouths whose jump from the mouth drawn in frame f - 1 is at most the speed", """
            setMouth(0, 0, 0)  addMouth(0, 3) = 1  addMouth(0, 6) = 2  addMouth(0, 9) = 3
            insert(0, 0, 5)  draw(0, 0)  draw(4, 3)
            between(0, 4) = 3  frame(1, 3) = 1  frame(2, 3) = 1  frame(3, 3) = 2       # from the one drawn just ahead
            setNumber(0, 2)  between(0, 4) = 9  frame(3, 3) = 0
            """);
        edges.hold("Promise 11", "A mouth is nearer if the greater one of its differences from the opening and the width "
            + "(without sign) is less; of several nearest ones the smallest number.", """
            setMouth(0, 0, 4)  addMouth(8, 4) = 1  addMouth(3, 7) = 2  addMouth(6, 6) = 3  addMouth(2, 2) = 4
            setNumber(0, 9)  insert(0, 0, 3)  draw(0, 0)  draw(2, 1)
            between(0, 2) = 2  frame(1, 3) = 3             # 2 and 2 are nearer than 1 and 3, and 3 goes ahead of 4
            setMouth(2, 4, 6)  between(0, 2) = 4  frame(1, 3) = 2
            setMouth(0, 4, 2)  setMouth(1, 4, 6)  setMouth(2, 4, 5)  between(0, 2) = 1  frame(1, 3) = 2
            setMouth(1, 4, 3)  setMouth(0, 4, 3)  between(0, 2) = 0  frame(1, 3) = 0    # twins: the smallest number
            """);
    }

    private void finish() {
        edges.hold("Promise 12", "Draws the best plan.", Edges.THREE, """
            finish() = 0  count(4) = 0                    # without frames, too
            insert(0, 0, 1)  finish() = 0  frame(0, 3) = 1  drawnSum() = 0  fault(0) = NONE
            insert(0, 9, 2)  insert(2, 1, 1)  pin(2, 1)  pin(3, 0)  draw(1, 0)
            finish() = 3  frame(0, 3) = 2  frame(1, 3) = 2  frame(2, 3) = 1  frame(3, 3) = 0  drawnSum() = 3
            """);
        edges.hold("Promise 12", "ILLEGAL_STATE if there is no allowed plan", Edges.THREE, """
            insert(0, 0, 3)  pin(0, 0)  pin(1, 2)  draw(2, 1)
            finish() = STATE  count(4) = 1  frame(2, 3) = 1  frame(0, 3) = NONE
            setNumber(0, 6)  finish() = 6  count(4) = 3
            """);
        edges.hold("Promise 12", "Returns its sum of wrongness", Edges.FRAMES_99, """
            setMouth(0, 0, 0)  finish() = 693  count(4) = 99  drawnSum() = 693  least(0) = 693  least(1) = 693
            """);
        StringBuilder worst = new StringBuilder("setMouth(0, 9, 9)\n");
        for (int kind = 0; kind < 5; kind++) {
            worst.append("setSound(" + kind + ", 0, 0) setSound(" + kind + ", 1, 0) setSound(" + kind + ", 2, 9)\n");
        }
        edges.hold("Promise 12", "Returns its sum of wrongness", Edges.FRAMES_99, worst.toString(), """
            least(0) = 16038  least(1) = 16038  finish() = 16038  drawnSum() = 16038  leastWith(98, 0) = 16038
            speedFor(16038) = 1  speedFor(16037) = NONE            # the greatest sum that there can be
            """);
    }

    private void breathe() {
        edges.range("Promise 13", "frames: 1 to 20", "", "breathe(?)", 1, 20);
        edges.range("Promise 13", "frames: 1 to 20", "setNumber(3, 3) insert(0, 0, 3) insert(1, 1, 3)", "breathe(?)", 1, 20);
        edges.hold("Promise 13", "as long as there is a gasp", """
            breathe(1) = 0  insert(0, 0, 20)  insert(1, 1, 20)  breathe(20) = 0  count(1) = 2     # the air is just enough
            insert(2, 2, 1)  count(5) = 1  breathe(1) = 1  count(1) = 4  count(2) = 42  count(5) = 0
            segment(2, 0) = 9  segment(2, 1) = 1  segment(2, 2) = 40  segment(3, 0) = 2  frame(41, 4) = 7
            breathe(1) = 0
            """);
        edges.hold("Promise 13", "a breath directly ahead of the segment in which the first gasp is", """
            setNumber(3, 4)  insert(0, 0, 2)  insert(1, 1, 4)  insert(2, 2, 3)  count(5) = 5
            breathe(1) = 2                              # the gasp is amid segment 1, the breath ahead of it
            segment(0, 0) = 0  segment(1, 0) = 9  segment(2, 0) = 1  segment(3, 0) = 9  segment(4, 0) = 2  count(1) = 5
            segment(1, 1) = 1  segment(3, 1) = 1  count(5) = 0  frame(6, 4) = 0  frame(7, 4) = 4
            """);
        edges.hold("Promise 13", "Returns the number of breaths that were inserted", """
            setNumber(3, 2)  setNumber(4, 1)  insert(0, 0, 2)  insert(1, 1, 2)  insert(2, 2, 2)  insert(3, 3, 2)
            breathe(1) = STATE                          # a gain of 1 is too little for 2 frames
            breathe(2) = 3  count(1) = 7  count(2) = 14  segment(1, 1) = 2  segment(5, 1) = 2  count(5) = 0
            undo()  setNumber(4, 2)  breathe(1) = 3  count(2) = 11
            """);
        edges.hold("Promise 13", "This is one action.", """
            setNumber(3, 1)  insert(0, 0, 1)  insert(1, 1, 1)  insert(2, 2, 1)  count(7) = 4
            breathe(1) = 2  count(7) = 5  undo() = 4  count(1) = 3  breathe(1) = 2  breathe(1) = 0  undo() = 4  count(1) = 5
            """);
    }

    private void breatheErrors() {
        String ahead = "ILLEGAL_STATE if one would have to be inserted ahead of segment 0, or directly behind a breath";
        edges.hold("Promise 13", ahead, """
            setNumber(3, 2)  insert(0, 0, 3)  breathe(1) = STATE  count(1) = 1  stretch(0, 2)  breathe(1) = 0
            setSound(0, 3, 3)  breathe(20) = STATE
            """);
        edges.hold("Promise 13", ahead, """
            setNumber(3, 3)  insert(0, 9, 1)  insert(1, 0, 4)  breathe(1) = STATE  count(1) = 2
            stretch(1, 3)  breathe(1) = 0
            """);
        edges.hold("Promise 13", ahead, """
            setNumber(3, 3)  insert(0, 0, 1)  insert(1, 1, 3)  insert(2, 2, 4)
            breathe(1) = STATE  count(1) = 3           # the third breath would be behind the second one
            stretch(2, 3)  breathe(1) = 2
            """);
        edges.hold("Promise 13", "INVALID_ARGUMENT if frames is out of range", """
            setNumber(3, 2)  insert(0, 0, 3)  breathe(0) = BAD  breathe(21) = BAD  breathe(-1) = BAD  breathe(1) = STATE
            """);
        edges.hold("Promise 13", LISTS_FIRST, Edges.FRAMES_99, """
            setNumber(3, 50)  breathe(21) = BAD  breathe(0) = BAD  breathe(1) = FULL
            setNumber(3, 19)  breathe(21) = BAD  breathe(0) = BAD  breathe(1) = STATE
            """);
    }

    private void breatheWithoutRoom() {
        String noRoom = "CAPACITY_EXCEEDED if there is no room for one (of these two the one that comes first, "
            + "with ILLEGAL_STATE first for the same breath)";
        edges.hold("Promise 13", noRoom, Edges.FRAMES_79, """
            breathe(20) = 1  count(2) = 99  segment(2, 0) = 9  undo()     # just the last frames that there is room for
            insert(0, 9, 1)  breathe(20) = FULL  count(2) = 80  count(1) = 5  breathe(19) = 1  count(2) = 99
            """);
        edges.hold("Promise 13", noRoom, Edges.SEGMENTS_29, """
            setNumber(3, 15)  setNumber(4, 14)  breathe(1) = 1  count(1) = 30  count(2) = 30  undo()
            setNumber(4, 13)  breathe(1) = FULL  count(1) = 29             # there is room for the first one alone
            insert(0, 0, 1)  setNumber(3, 29)  setNumber(4, 20)  breathe(1) = FULL
            """);
        edges.hold("Promise 13", noRoom, """
            setNumber(3, 20)  setNumber(4, 20)  insert(0, 0, 20)  insert(1, 1, 20)  insert(2, 2, 20)
            breathe(19) = 2  count(2) = 98  undo()  breathe(20) = FULL  count(2) = 60     # no room for the second one
            setNumber(3, 19)  breathe(20) = STATE  breathe(19) = STATE
            """);
        edges.hold("Promise 13", noRoom, Edges.FRAMES_99, """
            setNumber(3, 19)  breathe(20) = STATE      # the same breath: ahead of segment 0, and without room
            setNumber(3, 20)  breathe(20) = FULL       # the first breath is ahead of segment 1
            """);
        edges.hold("Promise 13", noRoom, """
            setNumber(3, 19)  setNumber(4, 19)  insert(0, 0, 19)  insert(1, 1, 20)  insert(2, 2, 20)  insert(3, 3, 20)
            breathe(20) = STATE                        # with the first breath it is full; the second is behind a breath
            insert(1, 4, 1)  breathe(20) = FULL        # the first breath has no room, and the second is not looked at
            """);
    }

    private void take() {
        edges.range("Promise 14", "slot: 0 or 1", "", "take(?)", 0, 1);
        edges.range("Promise 14", "slot: 0 or 1", "insert(0, 0, 1) take(0) take(1)", "take(?)", 0, 1);
        edges.hold("Promise 14", "Takes a snapshot, in place of one that is there.", """
            take(0) = 0  insert(0, 0, 5)  take(0) = 5  count(6) = 1  insert(0, 0, 2)  restore(0) = 5  restore(1) = STATE
            take(1) = 5  count(6) = 2  take(1) = 5  count(6) = 2  remove(0)  take(1) = 0  restore(0) = 5  restore(1) = 0
            """);
        edges.hold("Promise 14", "Returns the number of frames", Edges.FRAMES_99, "take(0) = 99 remove(0) = 79 take(1) = 79");
    }

    private void restore() {
        edges.range("Promise 15", "slot: 0 or 1", "take(0) take(1)", "restore(?)", 0, 1);
        edges.hold("Promise 15", "ILLEGAL_STATE if the slot is empty", """
            restore(0) = STATE  restore(1) = STATE  take(0)  restore(1) = STATE  restore(0) = 0
            undo()  undo()  restore(0) = STATE  take(1)  restore(0) = STATE  restore(1) = 0
            """);
        edges.hold("Promise 15", LISTS_FIRST, "restore(2) = BAD restore(-1) = BAD restore(1) = STATE");
        edges.hold("Promise 15", "Restores a snapshot, which stays.", Edges.FRAMES_99, """
            pin(98, 0)  draw(98, 0)  take(1) = 99  remove(0)  restore(1) = 99  frame(98, 2) = 0  frame(98, 3) = 0  count(6) = 1
            pin(98, -1)  remove(4)  restore(1) = 99  frame(98, 2) = 0  frame(98, 3) = 0
            """);
        edges.hold("Promise 15", "Returns the number of frames then", Edges.EIGHT, """
            insert(0, 0, 3)  take(0) = 3  remove(0)  take(1) = 0  restore(0) = 3  restore(1) = 0
            """);
    }

    private void undo() {
        edges.hold("Promise 16", "ILLEGAL_STATE if it is empty", """
            undo() = STATE  append(97)  clearText()  count(0)  addMouth(10, 0) = BAD  undo() = STATE
            insert(0, 0, 1)  undo() = 0  undo() = STATE  count(1) = 0
            """);
        edges.hold("Promise 16", "Removes the latest state from the history and restores it.", """
            insert(0, 1, 1)  insert(0, 2, 2)  insert(0, 3, 3)  count(7) = 3
            undo() = 2  count(2) = 3  insert(0, 4, 4) = 7  count(7) = 3  undo() = 2  count(2) = 3  undo() = 1  count(2) = 1
            undo() = 0  count(2) = 0  undo() = STATE
            """);
        edges.hold("Undo", "a state is everything but the text and the history (the snapshots belong to it)", """
            write "a1" insert(0, 0, 1)  clearText() = 2  write "b2" undo() = 0  count(8) = 2  count(2) = 0
            load() = 1  segment(0, 0) = 1  segment(0, 1) = 2
            append(97) = 1  undo() = 0  count(8) = 1  count(1) = 0
            """);
    }

    private void history() {
        edges.hold("Undo", "A history of at most 5 states is kept; .. when a sixth one is recorded, the oldest one is dropped.", """
            setNumber(3, 1)  setNumber(3, 2)  setNumber(3, 3)  setNumber(3, 4)  count(7) = 4  setNumber(3, 5)  count(7) = 5
            setNumber(3, 6)  count(7) = 5
            undo() = 4  number(3) = 5  undo() = 3  undo() = 2  undo() = 1  undo() = 0  number(3) = 1  undo() = STATE
            number(3) = 1
            """);
        edges.hold("Undo", "when a sixth one is recorded, the oldest one is dropped", """
            setNumber(3, 1)  setNumber(3, 2)  setNumber(3, 3)  setNumber(3, 4)  setNumber(3, 5)
            undo() = 4  undo() = 3  undo() = 2  undo() = 1  undo() = 0  number(3) = 40     # five of five
            """);
        edges.hold("Undo", "when a sixth one is recorded, the oldest one is dropped", """
            setNumber(3, 1)  setNumber(3, 2)  setNumber(3, 3)  setNumber(3, 4)  setNumber(3, 5)  setNumber(3, 6)
            setNumber(3, 7)  setNumber(3, 8)  setNumber(3, 9)  setNumber(3, 10)  setNumber(3, 11)  setNumber(3, 12)
            undo() = 4  number(3) = 11  setNumber(3, 20)  setNumber(3, 21)  count(7) = 5
            undo() = 4  number(3) = 20  undo() = 3  number(3) = 11  undo() = 2  number(3) = 10  undo() = 1  undo() = 0
            number(3) = 8  undo() = STATE
            """);
        String unchanged = "(also if nothing changes by it)";
        edges.hold("Undo", unchanged, """
            setMouth(0, 0, 4) = 0  count(7) = 1  setSound(0, 0, 3) = 3  count(7) = 2  setNumber(0, 3) = 3  count(7) = 3
            write " " load() = 0  count(7) = 4  load() = 0  count(7) = 5
            """);
        edges.hold("Undo", unchanged, "insert(0, 0, 2)\n", """
            stretch(0, 2) = 2  count(7) = 2  pin(0, -1) = NONE  count(7) = 3  draw(0, -1) = NONE  count(7) = 4
            breathe(1) = 0  count(7) = 5
            """);
        edges.hold("Undo", unchanged, "insert(0, 0, 2) draw(0, 0) draw(1, 0) undo() draw(1, 0)\n", """
            between(0, 1) = 0  count(7) = 4  finish() = 6  count(7) = 5
            """);
        edges.hold("Undo", unchanged, "take(0)\n", "take(0) = 0  count(7) = 2  restore(0) = 0  count(7) = 3  finish() = 0  count(7) = 4");
    }

    private void historyOfSnapshots() {
        edges.hold("Undo", "the snapshots belong to it", """
            take(0) = 0  insert(0, 0, 3)  take(0) = 3  take(1) = 3  count(6) = 2
            undo() = 3  count(6) = 1  restore(1) = STATE  restore(0) = 3  undo() = 3
            undo() = 2  count(6) = 1  restore(0) = 0  undo() = 2
            undo() = 1  count(2) = 0  undo() = 0  count(6) = 0  restore(0) = STATE
            """);
    }
}
