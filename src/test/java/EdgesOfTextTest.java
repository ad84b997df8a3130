/** The boundary cases of the promises 17 to 19, and of "Text". */
public final class EdgesOfTextTest {
    private static final String NUMBERS =
        "numbers are maximal runs of digits, and do not begin with 0 unless they are the single digit 0";
    private static final String NOT_ALLOWED =
        "The error position is the offset (from 0) of the first character that is not allowed where it stands";
    private static final String FIRST_DIGIT =
        "for a number that is out of its range or has a 0 ahead, or by which there would be more than 99 frames, its first digit";
    private static final String LETTER = "for a 31st segment, its letter or \".\"";
    private static final String MISSING = "If the text ends where something is missing, it is the length of the text.";
    private static final String SPACES = "Spaces (code 32) may stand everywhere except within numbers.";

    private final Edges edges = new Edges();

    public static void main(String[] args) {
        EdgesOfTextTest test = new EdgesOfTextTest();
        test.append();
        test.fullText();
        test.clearText();
        test.noItems();
        test.letters();
        test.numbersOfFrames();
        test.numbersOfMouths();
        test.digits();
        test.spaces();
        test.otherCharacters();
        test.missing();
        test.moreThan99Frames();
        test.segments31();
        test.fromLeftToRight();
        test.pins();
        test.textWithAnError();
        test.loadIsOneAction();
        test.edges.end();
    }

    private void append() {
        edges.range("Promise 17", "character: character code, 1 to 255", "", "append(?)", 1, 255);
        edges.hold("Promise 17", "Returns the new length of the text", """
            append(97) = 1  append(0) = BAD  append(256) = BAD  append(1) = 2  append(255) = 3  count(8) = 3  count(7) = 0
            """);
    }

    private void fullText() {
        String sentence = "CAPACITY_EXCEEDED if the text already has 120 characters";
        edges.hold("Promise 17", sentence, "write \"" + " ".repeat(118) + "\"", """
            count(8) = 118  append(97) = 119  append(49) = 120  append(32) = FULL  append(1) = FULL  append(255) = FULL
            count(8) = 120  load() = 1  count(8) = 0  append(97) = 1
            """);
        edges.hold("Promise 17", "INVALID_ARGUMENT if character is out of range; CAPACITY_EXCEEDED ..",
            "write \"" + " ".repeat(120) + "\"", """
            append(0) = BAD  append(256) = BAD  append(-1) = BAD  append(32) = FULL  clearText() = 120  append(32) = 1
            """);
        edges.text("Text", "a text of at most 120 characters", "", " ".repeat(118) + "a1", 1);
        edges.text("Text", "a text of at most 120 characters", "", " ".repeat(119) + "!", -1119);
        edges.text("Text", "a text of at most 120 characters", "", " ".repeat(119) + "a", -1120);
        edges.text("Text", "a text of at most 120 characters", "", "a1" + " ".repeat(118), 1);
        edges.text("Text", "a text of at most 120 characters", "", " ".repeat(120), 0);
        edges.text("Text", "a text of at most 120 characters", "", "a" + " ".repeat(118) + "7", 1);
    }

    private void clearText() {
        edges.hold("Promise 18", "Returns the previous length of the text.", """
            clearText() = 0  append(97) = 1  clearText() = 1  clearText() = 0  count(8) = 0  count(7) = 0  load() = 0
            write "a1b1" clearText() = 4  load() = 0  count(1) = 0
            """);
    }

    private void noItems() {
        edges.text("Text", "a sequence of items (possibly none)", "", "", 0);
        edges.text("Text", "a sequence of items (possibly none)", "", " ", 0);
        edges.text("Text", "a sequence of items (possibly none)", Edges.SEGMENTS_30, "", 0);
        edges.text("Text", "a sequence of items (possibly none)", Edges.SEGMENTS_30, "  ", 0);
        edges.text("Text", "a sequence of items (possibly none)", Edges.FRAMES_99, "  ", 0);
        edges.hold("Promise 19", "This is one action, also without items.", """
            load() = 0  count(7) = 1  write "  " load() = 0  count(7) = 2  count(8) = 0  undo() = 1  undo() = 0
            """);
    }

    private void letters() {
        edges.hold("Text", "a letter a to i (for the kinds 0 to 8) or \".\" (a breath), FRAMES", """
            write "a1i2.3b20" load() = 4  count(1) = 4  count(2) = 26
            segment(0, 0) = 0  segment(1, 0) = 8  segment(2, 0) = 9  segment(3, 0) = 1
            segment(0, 1) = 1  segment(1, 1) = 2  segment(2, 1) = 3  segment(3, 1) = 20
            """);
        edges.hold("Text", "a letter a to i (for the kinds 0 to 8)", """
            write "a1b1c1d1e1f1g1h1i1" load() = 9
            segment(2, 0) = 2  segment(3, 0) = 3  segment(4, 0) = 4  segment(5, 0) = 5  segment(6, 0) = 6  segment(7, 0) = 7
            """);
        for (String wrong : new String[] {"j1", "`1", "A1", "I1", "-1", "/1", "1", "0", "1a", "z1", ",1", "{1"}) {
            edges.text("Text", NOT_ALLOWED, "", wrong, -1000);
            edges.text("Text", NOT_ALLOWED, "", "a1 " + wrong, -1003);
        }
        edges.text("Text", NOT_ALLOWED, "", "!0", -1000);
        edges.hold("Text", "each of which appends a segment", "insert(0, 5, 2) insert(1, 6, 2)\n", """
            write ".1 h2" load() = 2  segment(0, 0) = 5  segment(1, 0) = 6  segment(2, 0) = 9  segment(3, 0) = 7
            segment(2, 2) = 4  segment(3, 2) = 5  count(2) = 7
            """);
    }

    private void numbersOfFrames() {
        String sentence = "FRAMES is a number from 1 to 20";
        edges.text("Text", sentence, "", "a1", 1);
        edges.text("Text", sentence, "", "a20", 1);
        edges.text("Text", sentence, "", ".20", 1);
        edges.hold("Text", sentence, "write \"a20b19c10d9\" load() = 4 segment(0, 1) = 20 segment(1, 1) = 19 "
            + "segment(2, 1) = 10 segment(3, 1) = 9");
        for (String wrong : new String[] {"a0", "a21", "a22", "a30", "a99", "a100", "a101", "a1001", "a200"}) {
            edges.text("Text", FIRST_DIGIT, "", wrong, -1001);
        }
        edges.text("Text", FIRST_DIGIT, "", " a 21", -1003);
        edges.text("Text", FIRST_DIGIT, "", "a20 .0", -1005);
        edges.text("Text", FIRST_DIGIT, "", "a20.21", -1004);
        // numbers that come to one in range if they are counted with too few bits
        for (String wrong : new String[] {"257", "65537", "4294967297", "2147483649", "18446744073709551617", "1000000000001",
            "99999999999999999999999999999999999999999999999999"}) {
            edges.text("Text", FIRST_DIGIT, "", "a" + wrong, -1001);
        }
    }

    private void numbersOfMouths() {
        String sentence = "MOUTH that of a mouth";
        edges.text("Text", sentence, "", "a1!0", 1);
        edges.text("Text", FIRST_DIGIT, "", "a1!1", -1003);
        edges.text("Text", sentence, Edges.THREE, "a1!2", 1);
        edges.text("Text", FIRST_DIGIT, Edges.THREE, "a1!3", -1003);
        edges.text("Text", sentence, Edges.EIGHT, "a1!7", 1);
        edges.text("Text", FIRST_DIGIT, Edges.EIGHT, "a1!8", -1003);
        edges.text("Text", FIRST_DIGIT, Edges.EIGHT, "a1!9", -1003);
        edges.text("Text", FIRST_DIGIT, Edges.EIGHT, "a1!10", -1003);
        edges.text("Text", FIRST_DIGIT, Edges.EIGHT, "a1!256", -1003);
        edges.text("Text", FIRST_DIGIT, Edges.EIGHT, "a1!4294967296", -1003);
        edges.text("Text", FIRST_DIGIT, Edges.EIGHT, "a1!18446744073709551617", -1003);
        edges.text("Text", FIRST_DIGIT, Edges.EIGHT, "a1 ! 8 ", -1005);
    }

    private void digits() {
        for (String wrong : new String[] {"a00", "a01", "a020", "a0001", "a09"}) {
            edges.text("Text", NUMBERS, "", wrong, -1001);
        }
        for (String wrong : new String[] {"a1!00", "a1!01", "a1!07", "a1!000"}) {
            edges.text("Text", NUMBERS, Edges.EIGHT, wrong, -1003);
        }
        edges.text("Text", NUMBERS, "", "a1 0", -1003);
        edges.text("Text", NUMBERS, "", "a 1 0", -1004);
        edges.text("Text", NUMBERS, "", "a1!0 0", -1005);
        edges.text("Text", NUMBERS, "", "a1!0b1", 2);
        edges.text("Text", NUMBERS, "", "a1.5", 2);
        edges.text("Text", NUMBERS, "", "a10!0", 1);
        edges.text("Text", NUMBERS, "", "a1/", -1002);
        edges.text("Text", NUMBERS, "", "a1:", -1002);
        edges.text("Text", NUMBERS, "", "a/1", -1001);
        edges.text("Text", NUMBERS, "", "a:1", -1001);
        edges.text("Text", NUMBERS, "", "a1!:", -1003);
        edges.text("Text", NUMBERS, "", "a1!/", -1003);
    }

    private void spaces() {
        edges.hold("Text", SPACES, Edges.THREE, """
            write "   a   12   !   2   .   3   " load() = 2  segment(0, 1) = 12  segment(1, 1) = 3  segment(1, 0) = 9
            frame(0, 2) = 2  frame(1, 2) = NONE  frame(12, 2) = NONE  count(3) = 1
            """);
        for (String good : new String[] {" a1", "a 1", "a1 ", "a1 !0", "a1! 0", "a1!0 "}) {
            edges.text("Text", SPACES, "", good, 1);
        }
        edges.text("Text", SPACES, "", "a1 b1", 2);
        edges.text("Text", SPACES, "", "a1!0 b1", 2);
        edges.text("Text", SPACES, "", "a1 2", -1003);
        edges.text("Text", SPACES, Edges.EIGHT, "a1!0 1", -1005);
        edges.text("Text", SPACES, Edges.EIGHT, "a1! 1 0", -1006);
    }

    private void otherCharacters() {
        for (int other : new int[] {1, 9, 10, 13, 31, 34, 45, 47, 58, 95, 96, 106, 127, 128, 160, 178, 185, 255}) {
            String code = "append(" + other + ") ";
            edges.hold("Text", SPACES, code + "write \"a1\" load() = -1000");
            edges.hold("Text", SPACES, "write \"a\" " + code + "write \"1\" load() = -1001");
            edges.hold("Text", SPACES, "write \"a1\" " + code + "load() = -1002");
            edges.hold("Text", SPACES, "write \"a1!\" " + code + "write \"0\" load() = -1003");
            edges.hold("Text", SPACES, "write \"a1!0\" " + code + "load() = -1004");
        }
        for (String wrong : new String[] {"a!0", "a.1", "aa1", "a-1", "a+1", "a ,1"}) {
            edges.text("Text", NOT_ALLOWED, "", wrong, wrong.equals("a ,1") ? -1002 : -1001);
        }
        for (String wrong : new String[] {"a1!!0", "a1!a", "a1!.", "a1!-1", "a1!b1"}) {
            edges.text("Text", NOT_ALLOWED, "", wrong, -1003);
        }
        edges.text("Text", NOT_ALLOWED, "", "a1!0!0", -1004);
        edges.text("Text", NOT_ALLOWED, "", "a1!0 !0", -1005);
        edges.text("Text", NOT_ALLOWED, "", "a1,b1", -1002);
    }

    private void missing() {
        edges.text("Text", MISSING, "", "a", -1001);
        edges.text("Text", MISSING, "", ".", -1001);
        edges.text("Text", MISSING, "", "a ", -1002);
        edges.text("Text", MISSING, "", "  a   ", -1006);
        edges.text("Text", MISSING, "", "a1!", -1003);
        edges.text("Text", MISSING, "", "a1!  ", -1005);
        edges.text("Text", MISSING, "", "a1 ! ", -1005);
        edges.text("Text", MISSING, "", "a1b", -1003);
        edges.text("Text", MISSING, "", "a1!0.", -1005);
        edges.text("Text", MISSING, Edges.FRAMES_99, "a", -1001);
        edges.text("Text", MISSING, Edges.FRAMES_99, "a ", -1002);
    }

    private void moreThan99Frames() {
        edges.text("Text", FIRST_DIGIT, "", "a20b20c20d20e19", 5);
        edges.text("Text", FIRST_DIGIT, "", "a20b20c20d20e20", -1013);
        edges.text("Text", FIRST_DIGIT, "", "a20b20c20d20e19f1", -1016);
        edges.text("Text", FIRST_DIGIT, "", "a20b20c20d20 e19 . 1", -1019);
        edges.text("Text", FIRST_DIGIT, Edges.FRAMES_79, "a20", 1);
        edges.text("Text", FIRST_DIGIT, Edges.FRAMES_79, "a19b1", 2);
        edges.text("Text", FIRST_DIGIT, Edges.FRAMES_79, "a19b2", -1004);
        edges.text("Text", FIRST_DIGIT, Edges.FRAMES_79, "a1 a20", -1004);
        edges.text("Text", FIRST_DIGIT, Edges.FRAMES_79, "a21", -1001);
        edges.text("Text", FIRST_DIGIT, Edges.FRAMES_99, "a1", -1001);
        edges.text("Text", FIRST_DIGIT, Edges.FRAMES_99, "  .20", -1003);
        edges.text("Text", FIRST_DIGIT, Edges.FRAMES_99, "a0", -1001);
        edges.text("Text", NOT_ALLOWED, Edges.FRAMES_99, "x", -1000);
        edges.text("Text", NOT_ALLOWED, Edges.FRAMES_99, "a!0", -1001);
        edges.hold("Text", FIRST_DIGIT, Edges.FRAMES_79, """
            write "a20!0" load() = 1  count(2) = 99  frame(79, 2) = 0  frame(98, 0) = 4  write "a1" load() = -1001
            remove(0) = 79  load() = 1  count(2) = 80
            """);
    }

    private void segments31() {
        edges.text("Text", LETTER, "", "a1".repeat(30), 30);
        edges.text("Text", LETTER, "", "a1".repeat(31), -1060);
        edges.text("Text", LETTER, "", "a1".repeat(30) + " .1", -1061);
        edges.text("Text", LETTER, "", "a1".repeat(30) + " ", 30);
        edges.text("Text", LETTER, Edges.SEGMENTS_29, "a1", 1);
        edges.text("Text", LETTER, Edges.SEGMENTS_29, "a1!0 ", 1);
        edges.text("Text", LETTER, Edges.SEGMENTS_29, "a1b1", -1002);
        edges.text("Text", LETTER, Edges.SEGMENTS_29, "a1 .1", -1003);
        edges.text("Text", LETTER, Edges.SEGMENTS_29, "a1 b", -1003);
        edges.text("Text", LETTER, Edges.SEGMENTS_29, "a1 b0", -1003);
        edges.text("Text", LETTER, Edges.SEGMENTS_29, "a1 .21", -1003);
        edges.text("Text", LETTER, Edges.SEGMENTS_29, "a1 x", -1003);
        edges.text("Text", LETTER, Edges.SEGMENTS_29, "a1 2", -1003);
        edges.text("Text", LETTER, Edges.SEGMENTS_30, "a1", -1000);
        edges.text("Text", LETTER, Edges.SEGMENTS_30, " .", -1001);
        edges.text("Text", LETTER, Edges.SEGMENTS_30, "!", -1000);
        edges.hold("Text", LETTER, Edges.SEGMENTS_29, """
            insert(29, 0, 20)  stretch(0, 20)  stretch(1, 20)  stretch(2, 13)  count(1) = 30  count(2) = 99
            write " i1" load() = -1001  remove(5) = 98  load() = 1  count(1) = 30  count(2) = 99      # both just full
            """);
    }

    private void fromLeftToRight() {
        String sentence = "The text is read from left to right.";
        edges.text("Text", sentence, "", "a21!9x", -1001);
        edges.text("Text", sentence, "", "a1!9 b21", -1003);
        edges.text("Text", sentence, "", "x a0", -1000);
        edges.text("Text", sentence, "", "a1 a0 x", -1004);
        edges.text("Text", sentence, "", "a20b20c20d20e20!9", -1013);
        edges.text("Text", sentence, "", "a1!5 a20b20c20d20e20", -1003);
        edges.text("Text", sentence, Edges.SEGMENTS_29, "a1!1 a1", -1003);
        edges.text("Text", sentence, Edges.SEGMENTS_29, "a01 a1", -1001);
        edges.text("Text", sentence, Edges.SEGMENTS_29, "a1!", -1003);
    }

    private void pins() {
        edges.hold("Text", "then possibly \"!\" and MOUTH, to which the first frame of the segment is pinned", Edges.THREE,
            "insert(0, 0, 2)\n", """
            write "a3!2 b20 .1!0 c2!1" load() = 4  count(3) = 3  count(4) = 0
            frame(0, 2) = NONE  frame(1, 2) = NONE  frame(2, 2) = 2  frame(3, 2) = NONE  frame(4, 2) = NONE
            frame(5, 2) = NONE  frame(25, 2) = 0  frame(26, 2) = 1  frame(27, 2) = NONE
            """);
    }

    private void textWithAnError() {
        String sentence = "-1000 minus the error position if the text has an error (then nothing changes, and the text is kept)";
        edges.hold("Promise 19", sentence, "insert(0, 3, 2) pin(0, 0) draw(1, 0)\n", """
            write "a1!0 b2 x" load() = -1008  count(1) = 1  count(2) = 2  count(3) = 1  count(4) = 1  count(7) = 3  count(8) = 9
            load() = -1008  clearText() = 9  write "b2" load() = 1  count(2) = 4
            """);
        edges.hold("Promise 19", sentence, """
            write "a1!" load() = -1003  append(48) = 4  load() = 1  frame(0, 2) = 0  count(8) = 0
            write "b1!1" load() = -1003  addMouth(1, 1) = 1  load() = 1  frame(1, 2) = 1
            """);
        edges.hold("Promise 19", sentence, """
            write "x" load() = -1000  undo() = STATE  count(8) = 1  clearText() = 1  load() = 0  count(7) = 1
            """);
    }

    private void loadIsOneAction() {
        edges.hold("Promise 19", "The text becomes empty. This is one action", """
            write "a1b2c3" load() = 3  count(7) = 1  count(8) = 0  load() = 0  count(7) = 2  count(1) = 3
            undo() = 1  undo() = 0  count(1) = 0  count(8) = 0
            """);
    }
}
