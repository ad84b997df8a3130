/** The boundary cases that the document's "Terms" name: mouths, sounds, segments, frames, plans, air, snapshots. */
public final class EdgesOfTermsTest {
    private final Edges edges = new Edges();

    public static void main(String[] args) {
        EdgesOfTermsTest test = new EdgesOfTermsTest();
        test.mouths();
        test.sounds();
        test.settings();
        test.segments();
        test.frames();
        test.framesThatMove();
        test.newFrames();
        test.wrongness();
        test.pinnedPlans();
        test.speed();
        test.hold();
        test.heldPlans();
        test.runs();
        test.bestOfSeveral();
        test.withoutFrames();
        test.airAheadOfAll();
        test.gasps();
        test.breaths();
        test.snapshots();
        test.fewerThanBefore();
        test.callsOfOneObject();
        test.severalObjects();
        test.edges.end();
    }

    private void mouths() {
        edges.hold("Mouths", "There are at most 8 mouths, numbered from 0; at first there is one, "
            + "with the opening 0 and the width 4.", """
            count(0) = 1  mouth(0, 0) = 0  mouth(0, 1) = 4  mouth(1, 0) = BAD
            addMouth(1, 9) = 1  addMouth(2, 8) = 2  addMouth(3, 7) = 3  addMouth(4, 6) = 4  addMouth(5, 5) = 5
            addMouth(6, 4) = 6  mouth(7, 0) = BAD  addMouth(7, 3) = 7
            count(0) = 8  mouth(7, 0) = 7  mouth(7, 1) = 3  mouth(8, 0) = BAD  mouth(-1, 0) = BAD
            addMouth(8, 8) = FULL  count(0) = 8  mouth(8, 0) = BAD
            """);
        edges.hold("Mouths", "A mouth has an opening and a width, each 0 to 9.", """
            addMouth(0, 9) = 1  mouth(1, 0) = 0  mouth(1, 1) = 9  addMouth(9, 0) = 2  mouth(2, 0) = 9  mouth(2, 1) = 0
            setMouth(0, 9, 9)  mouth(0, 0) = 9  mouth(0, 1) = 9  setMouth(0, 0, 0)  mouth(0, 0) = 0  mouth(0, 1) = 0
            addMouth(10, 9) = BAD  addMouth(9, 10) = BAD  addMouth(-1, 0) = BAD  addMouth(0, -1) = BAD
            """);
        edges.hold("Mouths", "The jump between two mouths is the greater one of the differences of their openings "
            + "and of their widths (without sign).", """
            addMouth(9, 4) = 1  addMouth(5, 9) = 2  addMouth(2, 2) = 3  addMouth(0, 4) = 4  addMouth(8, 0) = 5
            jump(0, 1) = 9  jump(1, 0) = 9          # the openings alone differ, from the least to the greatest
            jump(2, 5) = 9  jump(5, 2) = 9          # the widths differ more, from the greatest to the least
            jump(0, 2) = 5  jump(2, 0) = 5          # both differ as much
            jump(0, 3) = 2  jump(3, 0) = 2          # ... one up, one down
            jump(1, 2) = 5  jump(2, 1) = 5  jump(1, 3) = 7  jump(3, 1) = 7
            jump(0, 4) = 0  jump(0, 0) = 0          # another one of the same shape, and the same one
            """);
    }

    private void sounds() {
        StringBuilder first = new StringBuilder();
        for (int kind = 0; kind < 9; kind++) {
            first.append("sound(" + kind + ", 0) = 3 sound(" + kind + ", 1) = 4 ")
                .append("sound(" + kind + ", 2) = 1 sound(" + kind + ", 3) = 1\n");
        }
        edges.hold("Sounds", "at first these are 3, 4, 1 and 1", first.toString());
        edges.hold("Sounds", "The sounds are the kinds 0 to 8.", """
            sound(0, 0) = 3  sound(8, 0) = 3  sound(9, 0) = BAD  sound(-1, 0) = BAD
            setSound(8, 0, 4) = 3  setSound(0, 0, 5) = 3  setSound(9, 0, 4) = BAD  setSound(-1, 0, 4) = BAD
            sound(8, 0) = 4  sound(7, 0) = 3  sound(0, 0) = 5  sound(1, 0) = 3
            """);
        edges.hold("Sounds", "A sound has an opening and a width that it wants, each 0 to 9, a weight, 0 to 9, "
            + "and a use of air, 0 to 3", """
            setSound(4, 0, 0) = 3  setSound(4, 0, 9) = 0  setSound(4, 0, 10) = BAD  setSound(4, 0, -1) = BAD
            setSound(4, 1, 0) = 4  setSound(4, 1, 9) = 0  setSound(4, 1, 10) = BAD  setSound(4, 1, -1) = BAD
            setSound(4, 2, 0) = 1  setSound(4, 2, 9) = 0  setSound(4, 2, 10) = BAD  setSound(4, 2, -1) = BAD
            setSound(4, 3, 0) = 1  setSound(4, 3, 3) = 0  setSound(4, 3, 4) = BAD  setSound(4, 3, -1) = BAD
            sound(4, 0) = 9  sound(4, 1) = 9  sound(4, 2) = 9  sound(4, 3) = 3
            sound(3, 3) = 1  sound(5, 0) = 3
            """);
        edges.hold("Sounds", "The kind 9 is a breath.", """
            insert(0, 9, 1) = 1  insert(1, 8, 1) = 2  frame(0, 1) = 9  segment(0, 0) = 9
            setSound(8, 2, 9)  setSound(8, 3, 3)
            wrongness(0, 0) = 45  frame(0, 4) = 40  frame(0, 5) = 0      # 9 times what the gape is wider, and no use
            wrongness(1, 0) = 27  frame(1, 4) = 37
            insert(0, 10, 1) = BAD
            """);
    }

    private void settings() {
        edges.hold("Sounds", "Settings: the speed, 1 to 9 (at first 3); the hold, 1 to 3 (at first 1); the gape, 0 to 9 "
            + "(at first 5); the capacity, 1 to 99 (at first 40); the gain, 1 to 20 (at first 8).", """
            number(0) = 3  number(1) = 1  number(2) = 5  number(3) = 40  number(4) = 8  number(5) = BAD  number(-1) = BAD
            setNumber(0, 0) = BAD  setNumber(0, 1) = 3   setNumber(0, 9) = 1   setNumber(0, 10) = BAD   number(0) = 9
            setNumber(1, 0) = BAD  setNumber(1, 1) = 1   setNumber(1, 3) = 1   setNumber(1, 4) = BAD    number(1) = 3
            setNumber(2, -1) = BAD  setNumber(2, 0) = 5  setNumber(2, 9) = 0   setNumber(2, 10) = BAD   number(2) = 9
            setNumber(3, 0) = BAD  setNumber(3, 1) = 40  setNumber(3, 99) = 1  setNumber(3, 100) = BAD  number(3) = 99
            setNumber(4, 0) = BAD  setNumber(4, 1) = 8   setNumber(4, 20) = 1  setNumber(4, 21) = BAD   number(4) = 20
            number(0) = 9  number(1) = 3  number(2) = 9  number(3) = 99
            """);
    }

    private void segments() {
        String sentence = "There are at most 30 segments, numbered from 0; each has a kind, 0 to 9, and 1 to 20 frames.";
        edges.hold("Segments", sentence, Edges.SEGMENTS_29, """
            segment(28, 0) = 0  segment(29, 0) = BAD  insert(29, 7, 1) = 30  segment(29, 0) = 7  segment(29, 2) = 29
            segment(0, 0) = 0  segment(30, 0) = BAD  segment(-1, 0) = BAD
            insert(30, 0, 1) = FULL  insert(0, 0, 1) = FULL  count(1) = 30  count(2) = 30
            remove(0) = 29  insert(0, 9, 1) = 30  segment(0, 0) = 9  insert(0, 0, 1) = FULL
            """);
        edges.hold("Segments", sentence, """
            insert(0, 0, 1) = 1  insert(1, 9, 20) = 21  insert(0, -1, 1) = BAD  insert(0, 10, 1) = BAD
            insert(0, 0, 0) = BAD  insert(0, 0, 21) = BAD
            segment(0, 0) = 0  segment(0, 1) = 1  segment(1, 0) = 9  segment(1, 1) = 20  segment(1, 2) = 1
            """);
    }

    private void frames() {
        String sentence = "The frames of all segments, one behind another, at most 99, are numbered from 0.";
        edges.hold("Segments and frames", sentence, """
            frame(0, 0) = BAD  insert(0, 3, 2) = 2  frame(0, 0) = 0  frame(1, 0) = 0  frame(2, 0) = BAD
            insert(1, 4, 1) = 3  frame(1, 0) = 0  frame(2, 0) = 1  frame(2, 1) = 4  frame(3, 0) = BAD  frame(-1, 0) = BAD
            insert(0, 5, 1) = 4  frame(0, 1) = 5  frame(1, 1) = 3  frame(2, 1) = 3  frame(3, 1) = 4
            """);
        edges.hold("Segments and frames", sentence, Edges.FRAMES_99, """
            count(2) = 99  frame(98, 0) = 4  frame(98, 1) = 4  frame(79, 0) = 4  frame(78, 0) = 3  frame(99, 0) = BAD
            pin(98, 0) = NONE  draw(98, 0) = NONE  pin(99, 0) = BAD  draw(99, 0) = BAD
            insert(5, 0, 1) = FULL  stretch(3, 20) = FULL  write "a1" load() = -1001  clearText() = 2
            setNumber(3, 60)  breathe(1) = FULL  count(2) = 99  frame(98, 2) = 0  frame(98, 3) = 0
            """);
        edges.hold("Segments and frames", sentence, Edges.SEGMENTS_29, """
            insert(29, 9, 20) = 49  insert(0, 0, 1) = FULL  stretch(0, 20) = 1  stretch(1, 20) = 1  stretch(2, 12) = 1
            count(2) = 98  stretch(3, 2) = 1  count(2) = 99  stretch(4, 2) = FULL  frame(98, 0) = 29  frame(98, 1) = 9
            frame(78, 0) = 28  frame(79, 0) = 29  frame(0, 0) = 0
            """);
    }

    private void framesThatMove() {
        String sentence = "both stay with the frame when segments ahead of it come or go";
        String two = "insert(0, 1, 2) insert(1, 2, 3) pin(0, 0) pin(2, 1) draw(2, 2) draw(4, 1)\n";
        edges.hold("Segments and frames", sentence, Edges.THREE, two, """
            insert(0, 3, 4) = 9                 # ahead of all: each goes 4 frames on
            frame(4, 2) = 0  frame(6, 2) = 1  frame(6, 3) = 2  frame(8, 3) = 1  count(3) = 2  count(4) = 2
            remove(0) = 5
            frame(0, 2) = 0  frame(2, 2) = 1  frame(2, 3) = 2  frame(4, 3) = 1
            """);
        edges.hold("Segments and frames", sentence, Edges.THREE, two, """
            insert(1, 3, 20) = 25               # directly ahead of segment 1
            frame(0, 2) = 0  frame(22, 2) = 1  frame(22, 3) = 2  frame(24, 3) = 1
            frame(2, 2) = NONE  frame(2, 3) = NONE  frame(4, 3) = NONE
            insert(3, 3, 1) = 26                # behind all
            frame(0, 2) = 0  frame(22, 2) = 1  frame(24, 3) = 1  count(3) = 2  count(4) = 2
            """);
        edges.hold("Segments and frames", sentence, Edges.THREE, two, """
            remove(0) = 3
            frame(0, 2) = 1  frame(0, 3) = 2  frame(2, 3) = 1  count(3) = 1  count(4) = 2
            stretch(0, 20) = 3                  # behind it nothing moves
            frame(0, 2) = 1  frame(2, 3) = 1
            """);
        edges.hold("Segments and frames", sentence, Edges.THREE, two, """
            stretch(0, 3) = 2
            frame(0, 2) = 0  frame(3, 2) = 1  frame(3, 3) = 2  frame(5, 3) = 1
            stretch(0, 1) = 3
            frame(0, 2) = 0  frame(1, 2) = 1  frame(1, 3) = 2  frame(3, 3) = 1
            """);
        edges.hold("Segments and frames", sentence, Edges.THREE, two, """
            setNumber(3, 4)  breathe(2) = 1     # a breath that comes ahead of segment 1
            frame(0, 2) = 0  frame(4, 2) = 1  frame(4, 3) = 2  frame(6, 3) = 1  frame(2, 2) = NONE  frame(2, 3) = NONE
            """);
        edges.hold("Segments and frames", sentence, Edges.THREE, Edges.FRAMES_79, """
            pin(78, 1)  draw(78, 2)  pin(59, 2)
            insert(3, 0, 20) = 99  frame(98, 2) = 1  frame(98, 3) = 2  frame(59, 2) = 2  frame(78, 2) = NONE
            remove(0) = 79  frame(78, 2) = 1  frame(78, 3) = 2  frame(39, 2) = 2  count(3) = 2
            """);
    }

    private void newFrames() {
        String sentence = "New frames are not pinned and not drawn.";
        String full = "insert(0, 1, 3) pin(0, 0) pin(1, 0) pin(2, 0) draw(0, 0) draw(1, 0) draw(2, 0)\n";
        edges.hold("Segments and frames", sentence, full, """
            insert(0, 2, 3) = 6  frame(0, 2) = NONE  frame(2, 2) = NONE  frame(0, 3) = NONE  frame(2, 3) = NONE
            insert(2, 2, 2) = 8  frame(6, 2) = NONE  frame(7, 3) = NONE  count(3) = 3  count(4) = 3
            """);
        edges.hold("Segments and frames", sentence, full, """
            remove(0) = 0  insert(0, 1, 3) = 3  count(3) = 0  count(4) = 0     # nor where there were others
            """);
        edges.hold("Segments and frames", sentence, full, """
            stretch(0, 1) = 3  stretch(0, 4) = 1  count(3) = 1  count(4) = 1  frame(0, 2) = 0  frame(1, 2) = NONE
            frame(1, 3) = NONE  frame(3, 2) = NONE  frame(3, 3) = NONE
            """);
        edges.hold("Segments and frames", sentence, full, """
            undo() undo() undo() undo() undo() = 0  count(2) = 3  count(3) = 1  count(4) = 0
            remove(0) = 0  write "a3" load() = 1  count(3) = 0  count(4) = 0
            """);
        edges.hold("Segments and frames", sentence, full, """
            insert(1, 2, 2)  pin(3, 0)  pin(4, 0)  draw(3, 0)  draw(4, 0)  setNumber(3, 3)
            breathe(3) = 1  count(3) = 5  count(4) = 5
            frame(3, 1) = 9  frame(3, 2) = NONE  frame(5, 2) = NONE  frame(3, 3) = NONE  frame(5, 3) = NONE
            """);
    }

    private void wrongness() {
        edges.hold("Segments and frames", "The wrongness of a mouth in a frame of a sound is the weight of the sound, times "
            + "the sum of the differences (without sign) of the opening and of the width of the mouth from what the "
            + "sound wants.", """
            addMouth(9, 9) = 1  addMouth(3, 4) = 2  addMouth(0, 0) = 3  addMouth(2, 5) = 4  insert(0, 8, 1)
            wrongness(0, 0) = 3  wrongness(0, 1) = 11  wrongness(0, 2) = 0  wrongness(0, 3) = 7  wrongness(0, 4) = 2
            setSound(8, 2, 0)  wrongness(0, 1) = 0       # the least weight
            setSound(8, 2, 9)  wrongness(0, 1) = 99  wrongness(0, 4) = 18
            setSound(8, 0, 0)  setSound(8, 1, 0)  wrongness(0, 1) = 162  wrongness(0, 3) = 0    # as wrong as can be
            setSound(8, 0, 9)  setSound(8, 1, 9)  wrongness(0, 3) = 162  wrongness(0, 1) = 0
            """);
        edges.hold("Segments and frames", "In a frame of a breath it is 9 times the number by which the opening is less "
            + "than the gape, and 0 if it is not less.", """
            insert(0, 9, 1)  addMouth(4, 0) = 1  addMouth(5, 9) = 2  addMouth(6, 4) = 3  addMouth(9, 4) = 4
            wrongness(0, 0) = 45  wrongness(0, 1) = 9  wrongness(0, 2) = 0  wrongness(0, 3) = 0  wrongness(0, 4) = 0
            setNumber(2, 0)  wrongness(0, 0) = 0  wrongness(0, 4) = 0
            setNumber(2, 9)  wrongness(0, 0) = 81  wrongness(0, 3) = 27  wrongness(0, 4) = 0
            """);
    }

    private void pinnedPlans() {
        String sentence = "It is allowed if each pinned frame has the mouth to which it is pinned";
        edges.hold("Plans", sentence, Edges.THREE, """
            insert(0, 0, 1)  least(0) = 0  least(1) = 0  frame(0, 6) = 1
            pin(0, 0)  least(0) = 3  least(1) = 3  frame(0, 6) = 0
            pin(0, 2)  least(0) = 3  least(1) = 3  frame(0, 6) = 2
            pin(0, -1)  least(0) = 0  least(1) = 0  frame(0, 6) = 1
            """);
        edges.hold("Plans", sentence, Edges.THREE, """
            setNumber(0, 9)  insert(0, 0, 3)  pin(0, 2)  least(0) = 3  frame(0, 6) = 2  frame(1, 6) = 1  frame(2, 6) = 1
            pin(2, 0)  least(0) = 6  least(1) = 6  frame(0, 6) = 2  frame(1, 6) = 1  frame(2, 6) = 0
            pin(1, 2)  least(0) = 9  least(1) = 9  frame(1, 6) = 2
            """);
        edges.hold("Plans", sentence, Edges.FRAMES_99, """
            addMouth(3, 4)  pin(98, 0)  pin(0, 0)  least(0) = 6  least(1) = 6
            frame(0, 6) = 0  frame(1, 6) = 1  frame(97, 6) = 1  frame(98, 6) = 0
            """);
    }

    private void speed() {
        String sentence = "the jump between the mouths of two frames that follow on one another is at most the speed";
        edges.hold("Plans", sentence, "addMouth(9, 4) insert(0, 0, 2) pin(0, 0) pin(1, 1)\n", """
            least(0) = NONE  least(1) = NONE  setNumber(0, 8)  least(0) = NONE  least(1) = NONE
            setNumber(0, 9)  least(0) = 9  least(1) = 9     # a jump of just the greatest speed, by the opening
            """);
        edges.hold("Plans", sentence, "setMouth(0, 3, 5) addMouth(3, 4) insert(0, 0, 2) pin(0, 0) pin(1, 1)\n", """
            setNumber(0, 1)  least(0) = 1  least(1) = 1     # a jump of just the least speed, by the width
            setMouth(0, 3, 6)  least(0) = NONE  least(1) = NONE  frame(0, 6) = NONE
            setNumber(0, 2)  least(0) = 2  least(1) = 2  frame(0, 6) = 0
            """);
        edges.hold("Plans", sentence, Edges.THREE, """
            insert(0, 0, 3)  pin(0, 0)  pin(2, 2)  least(0) = 6  frame(1, 6) = 1     # two jumps of 3, not one of 6
            pin(1, 0)  least(0) = NONE  least(1) = NONE  pin(1, 2)  least(0) = NONE  least(1) = NONE
            setNumber(0, 6)  least(0) = 9  least(1) = 9
            setNumber(0, 5)  least(0) = NONE  least(1) = NONE
            """);
        edges.hold("Plans", sentence, Edges.THREE, """
            insert(0, 0, 1)  insert(1, 1, 1)  pin(0, 0)  pin(1, 2)
            least(0) = NONE  setNumber(0, 6)  least(0) = 6     # of two segments, too
            """);
    }

    private void hold() {
        String sentence = "each run of frames with the same mouth (by its number; a run is as long as it goes on) has at "
            + "least as many frames as the hold tells, but for the run that reaches the last frame";
        edges.hold("Plans", sentence, Edges.THREE, """
            insert(0, 0, 4)  pin(0, 0)  pin(1, 1)
            least(0) = 3  least(1) = 3                       # a hold of 1: each run is long enough
            setNumber(1, 2)  least(0) = NONE  least(1) = NONE
            pin(1, 0)  pin(2, 1)  least(0) = 6  least(1) = 6  # a run of just 2
            setNumber(1, 3)  least(0) = NONE  least(1) = NONE
            pin(2, 0)  pin(3, 1)  least(0) = 9  least(1) = 9  # a run of just 3, and the last run of 1
            setNumber(1, 2)  least(0) = 9                    # a run of more than the hold
            """);
        edges.hold("Plans", sentence, Edges.THREE, """
            setNumber(1, 3)  insert(0, 0, 1)  pin(0, 2)  least(0) = 3  least(1) = 3   # the only run reaches the last frame
            stretch(0, 2)  pin(1, 2)  least(0) = 6  least(1) = 6
            pin(1, 1)  least(0) = NONE  least(1) = NONE
            pin(1, -1)  frame(0, 6) = 2  frame(1, 6) = 2
            """);
        edges.hold("Plans", sentence, Edges.THREE, """
            setNumber(1, 2)  insert(0, 0, 6)  pin(0, 0)  pin(2, 1)  pin(3, 0)
            least(0) = NONE  least(1) = NONE                 # the run amid is of 1
            pin(3, 1)  pin(4, 0)  pin(5, 1)  least(0) = NONE  least(1) = NONE   # the last run but one is of 1
            pin(5, -1)  least(0) = 12  least(1) = 12  frame(1, 6) = 0  frame(5, 6) = 0
            """);
        edges.hold("Plans", sentence, Edges.THREE, """
            setNumber(1, 3)  insert(0, 0, 7)  pin(0, 0)  pin(6, 0)
            least(0) = 12  least(1) = 12                     # three frames at first, and the last frame
            frame(2, 6) = 0  frame(3, 6) = 1  frame(5, 6) = 1  frame(6, 6) = 0
            pin(2, 1)  least(0) = NONE  least(1) = NONE
            pin(2, -1)  pin(3, 1)  pin(5, 0)  least(0) = NONE  least(1) = NONE
            """);
    }

    /** The mouths that are told are those of a plan that is held as the sum is. */
    private void heldPlans() {
        String sentence = "each run of frames with the same mouth .. has at least as many frames as the hold tells";
        edges.hold("Plans", sentence, Edges.THREE, """
            setNumber(1, 2)  setSound(0, 0, 0)  setSound(1, 2, 2)  insert(0, 0, 3)  insert(1, 1, 2)
            least(0) = 0  frame(0, 6) = 0  frame(1, 6) = 0  frame(2, 6) = 0  frame(3, 6) = 1  frame(4, 6) = 1
            """);
        edges.hold("Plans", sentence, Edges.THREE, """
            setNumber(1, 2)  setSound(0, 0, 0)  setSound(2, 0, 6)  insert(0, 0, 2)  insert(1, 1, 1)  insert(2, 2, 2)
            least(0) = 3  frame(0, 6) = 0  frame(1, 6) = 0  frame(2, 6) = 1  frame(3, 6) = 1  frame(4, 6) = 2
            finish() = 3  fault(0) = NONE
            """);
        edges.hold("Plans", sentence, Edges.THREE, """
            setNumber(1, 2)  setSound(0, 0, 6)  setSound(2, 0, 0)  insert(0, 0, 2)  insert(1, 1, 1)  insert(2, 2, 2)
            least(0) = 3  frame(0, 6) = 2  frame(1, 6) = 2  frame(2, 6) = 1  frame(3, 6) = 1  frame(4, 6) = 0
            finish() = 3  fault(0) = NONE
            """);
    }

    private void runs() {
        String sentence = "by its number; a run is as long as it goes on";
        edges.hold("Plans", sentence, """
            addMouth(0, 4) = 1  insert(0, 0, 3)  setNumber(1, 2)  pin(0, 0)  pin(1, 1)
            jump(0, 1) = 0  least(0) = NONE  least(1) = NONE     # of the same shape, but not the same mouth
            pin(1, 0)  pin(2, 1)  least(0) = 9  least(1) = 9
            setNumber(1, 1)  pin(1, 1)  least(0) = 9  least(1) = 9
            """);
        edges.hold("Plans", sentence, Edges.THREE, """
            insert(0, 0, 2)  insert(1, 1, 2)  setNumber(1, 3)  pin(0, 0)  pin(2, 0)  pin(3, 1)
            least(0) = 9  least(1) = 9                           # a run goes on over the end of a segment
            """);
        edges.hold("Plans", sentence, Edges.THREE, """
            insert(0, 0, 5)  setNumber(1, 3)  pin(0, 0)  pin(1, 0)  pin(2, 1)  pin(3, 0)  pin(4, 0)
            least(0) = NONE  least(1) = NONE                     # frames of 0 that are apart are two runs
            setNumber(1, 2)  least(0) = NONE
            setNumber(1, 1)  least(0) = 12
            """);
    }

    private void bestOfSeveral() {
        String sentence = "of several ones, the one with the smallest mouth in frame 0, of these the one with the smallest "
            + "mouth in frame 1, and so on";
        edges.hold("Plans", "The best plan is an allowed one with the least sum of wrongness of its mouths in all frames", """
            addMouth(4, 4) = 1  addMouth(3, 4) = 2  addMouth(3, 5) = 3  insert(0, 0, 2)
            least(0) = 0  least(1) = 0  frame(0, 6) = 2  frame(1, 6) = 2
            setMouth(2, 9, 9)  least(0) = 2  least(1) = 2  frame(0, 6) = 1  frame(1, 6) = 1
            """);
        edges.hold("Plans", sentence, """
            addMouth(6, 4) = 1  addMouth(3, 1) = 2  insert(0, 0, 2)      # all are wrong by 3
            least(0) = 6  frame(0, 6) = 0  frame(1, 6) = 0
            pin(0, 1)  least(0) = 6  frame(0, 6) = 1  frame(1, 6) = 1    # 0 is too far for the speed
            pin(0, 2)  frame(1, 6) = 0
            pin(0, -1)  pin(1, 2)  frame(0, 6) = 0  frame(1, 6) = 2
            """);
        edges.hold("Plans", sentence, """
            addMouth(9, 4) = 1  addMouth(3, 4) = 2  setNumber(2, 3)  setSound(0, 2, 0)  insert(0, 0, 1)  insert(1, 9, 1)
            least(0) = 0  frame(0, 6) = 0  frame(1, 6) = 2       # 0 2 goes ahead of 1 1 and 2 2
            """);
        edges.hold("Plans", sentence, Edges.THREE, """
            setSound(0, 2, 0)  insert(0, 0, 3)  pin(2, 2)
            frame(0, 6) = 0  frame(1, 6) = 1  frame(2, 6) = 2
            setNumber(1, 2)  frame(0, 6) = 1  frame(1, 6) = 1  frame(2, 6) = 2     # 0 1 2 is held too shortly
            setNumber(1, 3)  frame(0, 6) = 2  frame(1, 6) = 2  frame(2, 6) = 2
            setNumber(1, 1)  pin(2, -1)  pin(0, 2)  frame(1, 6) = 1  frame(2, 6) = 0
            """);
        edges.hold("Plans", sentence, """
            addMouth(0, 4) = 1  insert(0, 0, 3)  setNumber(1, 2)  pin(2, 1)
            least(0) = 9  frame(0, 6) = 0  frame(1, 6) = 0       # a twin with a greater number comes later
            pin(2, 0)  pin(0, 1)  frame(1, 6) = 1  frame(2, 6) = 0
            """);
    }

    private void withoutFrames() {
        String sentence = "Without frames it is empty, and its sum is 0.";
        String script = """
            least(0) = 0  least(1) = 0  speedFor(0) = 1  drawnSum() = 0  fault(0) = NONE  fault(1) = NONE
            count(2) = 0  count(3) = 0  count(4) = 0  count(5) = 0  frame(0, 6) = BAD  leastWith(0, 0) = BAD  why(0) = BAD
            finish() = 0  breathe(1) = 0
            """;
        edges.hold("Plans", sentence, script);
        edges.hold("Plans", sentence, Edges.THREE, "setNumber(1, 3)\n", script);
        edges.hold("Plans", sentence, "insert(0, 0, 2) pin(0, 0) draw(0, 0) setNumber(3, 1)\n",
            "least(0) = 6 least(1) = 6 frame(1, 6) = 0 count(5) = 1 remove(0) = 0\n", script);
    }

    private void airAheadOfAll() {
        String sentence = "Ahead of frame 0 the air is the capacity.";
        edges.hold("Air", sentence, """
            insert(0, 0, 2)  frame(0, 4) = 39  frame(1, 4) = 38
            setNumber(3, 1)  frame(0, 4) = 0  frame(0, 5) = 0  frame(1, 4) = 0  frame(1, 5) = 1  count(5) = 1
            setNumber(3, 99)  frame(0, 4) = 98  frame(1, 4) = 97  count(5) = 0
            """);
        edges.hold("Air", sentence, Edges.FRAMES_99, """
            setNumber(3, 99)  frame(98, 4) = 0  frame(98, 5) = 0  frame(0, 4) = 98  count(5) = 0
            setNumber(3, 98)  frame(97, 4) = 0  frame(97, 5) = 0  frame(98, 4) = 0  frame(98, 5) = 1  count(5) = 1
            setNumber(3, 1)  frame(1, 5) = 1  count(5) = 98
            """);
    }

    private void gasps() {
        String sentence = "In a frame of a sound, if the air is less than the use of the sound, there is a gasp, and the air "
            + "is 0 behind it; otherwise the air becomes less by the use.";
        edges.hold("Air", sentence, """
            insert(0, 0, 1)  setSound(0, 3, 3)
            setNumber(3, 4)  frame(0, 4) = 1  frame(0, 5) = 0
            setNumber(3, 3)  frame(0, 4) = 0  frame(0, 5) = 0     # just enough
            setNumber(3, 2)  frame(0, 4) = 0  frame(0, 5) = 1     # one less
            setNumber(3, 1)  frame(0, 4) = 0  frame(0, 5) = 1  count(5) = 1
            """);
        edges.hold("Air", sentence, """
            setSound(1, 3, 3)  setSound(2, 3, 0)  insert(0, 1, 2)  insert(1, 0, 1)  insert(2, 2, 2)  setNumber(3, 5)
            frame(0, 4) = 2  frame(0, 5) = 0
            frame(1, 4) = 0  frame(1, 5) = 1      # 2 is less than 3, and what was left is gone
            frame(2, 4) = 0  frame(2, 5) = 1
            frame(3, 4) = 0  frame(3, 5) = 0      # no air is no less than no use
            frame(4, 5) = 0  count(5) = 2
            """);
        edges.hold("Air", sentence, """
            setSound(0, 3, 0)  setNumber(3, 1)  insert(0, 0, 20)  frame(0, 4) = 1  frame(19, 4) = 1  count(5) = 0
            """);
    }

    private void breaths() {
        String sentence = "In a frame of a breath the air becomes greater by the gain, but at most the capacity.";
        edges.hold("Air", sentence, """
            insert(0, 0, 3)  insert(1, 9, 2)  setNumber(3, 10)
            setNumber(4, 2)  frame(2, 4) = 7  frame(3, 4) = 9  frame(4, 4) = 10   # cut in the second frame
            setNumber(4, 3)  frame(3, 4) = 10  frame(4, 4) = 10                   # just full
            setNumber(4, 4)  frame(3, 4) = 10  frame(3, 5) = 0
            setNumber(4, 1)  frame(3, 4) = 8  frame(4, 4) = 9
            setNumber(4, 20)  frame(3, 4) = 10
            """);
        edges.hold("Air", sentence, """
            insert(0, 9, 1)  frame(0, 4) = 40  frame(0, 5) = 0                   # full from the first
            setNumber(3, 1)  setNumber(4, 20)  frame(0, 4) = 1
            insert(1, 0, 2)  insert(2, 9, 1)  insert(3, 0, 1)
            frame(2, 4) = 0  frame(2, 5) = 1  frame(3, 4) = 1  frame(3, 5) = 0  frame(4, 5) = 0  # from 0 behind a gasp
            setNumber(3, 99)  setNumber(4, 1)  frame(0, 4) = 99  frame(2, 4) = 97  frame(3, 4) = 98
            """);
    }

    private void snapshots() {
        edges.hold("Snapshots", "There are two slots for snapshots, empty at first.", """
            count(6) = 0  restore(0) = STATE  restore(1) = STATE  restore(2) = BAD  restore(-1) = BAD  count(7) = 0
            take(1) = 0  count(6) = 1  restore(0) = STATE  restore(1) = 0
            take(0) = 0  count(6) = 2  restore(0) = 0  take(2) = BAD  take(-1) = BAD  count(6) = 2
            """);
        String kept = Edges.THREE + "setMouth(1, 3, 5) setSound(8, 3, 2) setSound(0, 0, 4) setNumber(4, 9) "
            + "setNumber(0, 2) insert(0, 6, 3) insert(1, 9, 1) pin(1, 2) pin(3, 0) draw(0, 1) draw(3, 2)\n";
        String change = "addMouth(9, 9) setMouth(0, 8, 8) setMouth(1, 7, 7) setSound(8, 3, 0) setSound(0, 0, 0) "
            + "setNumber(4, 1) setNumber(0, 9) remove(1) insert(0, 1, 20) pin(0, 3) draw(0, 3) pin(21, 3) draw(22, 3)\n";
        String same = """
            count(0) = 3  mouth(0, 0) = 0  mouth(0, 1) = 4  mouth(1, 0) = 3  mouth(1, 1) = 5  mouth(3, 0) = BAD
            sound(8, 3) = 2  sound(0, 0) = 4  number(4) = 9  number(0) = 2
            count(1) = 2  count(2) = 4  segment(0, 0) = 6  segment(0, 1) = 3  segment(1, 0) = 9  segment(1, 1) = 1
            count(3) = 2  frame(1, 2) = 2  frame(3, 2) = 0  count(4) = 2  frame(0, 3) = 1  frame(3, 3) = 2
            """;
        edges.hold("Snapshots", "A snapshot keeps mouths, sounds, settings, and segments with all that is pinned and drawn. "
            + "To restore it makes these those of the snapshot.", kept, "take(1) = 4\n", change, "restore(1) = 4\n", same,
            change, "restore(1) = 4\n", same);
        edges.hold("Snapshots", "To restore it makes these those of the snapshot.", "take(0) = 0\n", kept, """
            write "a1" take(1) = 4  restore(0) = 0  count(0) = 1  count(1) = 0  count(2) = 0  sound(8, 3) = 1  number(4) = 8
            count(8) = 2  count(7) = 5  count(6) = 2        # neither the text nor the history is of it
            restore(1) = 4
            """, same);
    }

    /** What was found for mouths, segments and frames that are there no more is not found again. */
    private void fewerThanBefore() {
        String sentence = "To restore it makes these those of the snapshot.";
        edges.hold("Snapshots", sentence, """
            insert(0, 0, 3)  take(0) = 3  addMouth(3, 4) = 1  addMouth(3, 4) = 2  least(0) = 0  frame(0, 6) = 1  nearest(3, 4) = 1
            restore(0) = 3  least(0) = 9  least(1) = 9  frame(0, 6) = 0  frame(1, 6) = 0  frame(2, 6) = 0  why(1) = 0
            nearest(3, 4) = 0  leastWith(0, 1) = BAD  speedFor(8) = NONE  speedFor(9) = 1
            draw(0, 0)  draw(2, 0)  between(0, 2) = 0  frame(1, 3) = 0
            """);
        edges.hold("Snapshots", sentence, "take(0) = 0\n", Edges.FRAMES_99, """
            least(0) = 297  least(1) = 297  count(5) = 59  restore(0) = 0  least(0) = 0  least(1) = 0  count(5) = 0
            insert(0, 9, 1)  least(0) = 45  least(1) = 45  frame(0, 5) = 0  count(5) = 0
            """);
    }

    /** "An object is used for at most 512 calls after it has been made": the last of them is right as the first is. */
    private void callsOfOneObject() {
        LipFlaps x = new LipFlaps();
        for (int call = 1; call <= 512; call++) {
            int due = call == 1 ? 40 : (call - 2) % 99 + 1;
            int got = x.setNumber(3, (call - 1) % 99 + 1);
            if (got != due) {
                edges.wrong("What it is, \"at most 512 calls\": call " + call + " answered " + got + ", due is " + due);
            }
        }
    }

    /** "Creates an object": what is done to one is not done to another. */
    private void severalObjects() {
        LipFlaps x = new LipFlaps();
        LipFlaps y = new LipFlaps();
        x.addMouth(9, 9);
        x.insert(0, 0, 5);
        x.take(0);
        x.append('a');
        LipFlaps z = new LipFlaps();
        int[] due = {1, 0, 0, 0, 0, 0, 0, 0, 0};
        for (int what = 0; what < due.length; what++) {
            if (y.count(what) != due[what] || z.count(what) != due[what]) {
                edges.wrong("Promise 1, \"Creates an object\": count(" + what + ") is not an object's own");
            }
        }
    }
}
