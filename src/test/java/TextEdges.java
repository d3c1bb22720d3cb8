/** The buffer and its text, and promises 10 to 13. */
final class TextEdges {
    private static final String NEARLY_FULL = "a10,11,10,11,10,11,10,11;b10,11,10,11,10,11,10,11;c1,2,3,10";
    private static final String FULL = "a10,11,10,11,10,11,10,11;b10,11,10,11,10,11,10,11;c1,2,3,4,5";

    private TextEdges() {
    }

    static void all() {
        parts();
        streets();
        readFromTheLeft();
        append();
        clearBuffer();
        firstError();
        rounds();
        crewsThatAreTold();
        incompleteRounds();
    }

    private static void errorAt(String text, int due) {
        Check.same("firstError of " + text, due, Sample.typed(text).firstError());
    }

    /** What is complete has no error, and gives as many streets. */
    private static void gives(String text, int due) {
        errorAt(text, text.length());
        Check.same("rounds of " + text, due, Sample.typed(text).rounds());
    }

    private static void isIncomplete(String text) {
        HydrantRounds x = Sample.typed(text);
        Check.refuses(x, "rounds of " + text, Edge.ARGUMENT, x::rounds);
    }

    private static void parts() {
        Edge.term("Input text", 10, "The buffer has at most 60 characters.", () -> {
            HydrantRounds x = Sample.typed(FULL.substring(0, 59));
            Check.same("the sixtieth", 60, x.append('5'));
            Check.refuses(x, "one more", Edge.STATE, () -> x.append('5'));
            Check.same("length", 60, x.clearBuffer());
        });
        Edge.term("Input text", 13, "Rounds as a text are one or more parts with \";\" between them", () -> {
            isIncomplete("");
            gives("a0", 1);
            gives("a0;b1", 2);
            gives("a0;b1;c2;a3;b4;c5;a6;b7;c8;a9;b10;c11;a0;b1;c2;a3;b4;c5;a6", 3);
            isIncomplete("a0;");
            isIncomplete("a0b1");
            errorAt("a0b1", 2);
            errorAt(";a0", 0);
            errorAt("a0;;", 3);
            errorAt("a0,b1", 3);
        });
        Edge.term("Input text", 13, "each a crew as a letter, \"a\" to \"c\" (0 to 2)", () -> {
            char[] letters = {'a', 'b', 'c'};
            for (int crew = 0; crew < 3; crew++) {
                HydrantRounds x = Sample.typed(letters[crew] + "7");
                x.rounds();
                for (int other = 0; other < 3; other++) {
                    Check.same("round of " + other, other == crew ? 7 : Edge.NONE, x.round(other, 0));
                }
            }
            for (char wrong : new char[] {'`', 'd', '@', 'A', 'C', '0', '2', 'z'}) {
                errorAt(wrong + "7", 0);
                errorAt("a0;" + wrong, 3);
            }
        });
        Edge.term("Input text", 12, "and 1 to 8 streets with \",\" between them", () -> {
            isIncomplete("a");
            errorAt("a;", 1);
            errorAt("a,", 1);
            gives("a0", 1);
            gives("a0,1,2,3,4,5,6,7", 8);
            gives("b11,11,11,11,11,11,11,11;c1", 9);
            errorAt("a0,1,2,3,4,5,6,7,", 16);
            errorAt("b11,11,11,11,11,11,11,11,1", 24);
            errorAt("a0,1,2,3,4,5,6,7;b0,1,2,3,4,5,6,7,8", 33);
            gives("c0;c0,1,2,3,4,5,6,7", 8);
            isIncomplete("a0,");
            errorAt("a0,,", 3);
            errorAt("a0.1", 2);
        });
    }

    private static void streets() {
        Edge.term("Input text", 13, "each 0 to 11", () -> {
            for (int street = 0; street <= 11; street++) {
                HydrantRounds x = Sample.typed("b" + street);
                Check.same("firstError of " + street, street < 10 ? 2 : 3, x.firstError());
                x.rounds();
                Check.same("street", street, x.round(1, 0));
            }
            errorAt("b12", 2);
            errorAt("b19", 2);
            errorAt("b20", 2);
            errorAt("b99", 2);
            errorAt("b111", 3);
            errorAt("b100", 3);
            errorAt("b-1", 1);
            errorAt("b/", 1);
            errorAt("b:", 1);
            isIncomplete("b12");
        });
        Edge.term("Input text", 12, "without a leading zero", () -> {
            gives("a0", 1);
            gives("a0,0", 2);
            errorAt("a00", 2);
            errorAt("a01", 2);
            errorAt("a09", 2);
            errorAt("a1,00", 4);
            errorAt("a010", 2);
            isIncomplete("a01");
        });
    }

    private static void readFromTheLeft() {
        Edge.term("Input text", 12, "The buffer is read from left to right", () -> {
            errorAt("a0;x;y", 3);
            errorAt("xa0", 0);
            errorAt("a12;b12", 2);
            errorAt("a1,,;;", 3);
        });
        Edge.term("Input text", 12,
            "a character is a syntax error if no rounds as a text, of any length, begin with the characters before it "
            + "and this character", () -> {
            String[] before = {"", "a", "b0", "c1", "a2", "a10", "a11", "a1,", "a1;", "a0,1,2,3,4,5,6,", "a0,1,2,3,4,5,6,1",
                "a0,1,2,3,4,5,6,7"};
            String[] due = {"abc", "0123456789", ",;", "01,;", ",;", ",;", ",;", "0123456789", "abc", "0123456789", "01;",
                ";"};
            for (int i = 0; i < before.length; i++) {
                for (char next = 33; next <= 126; next++) {
                    errorAt(before[i] + next, before[i].length() + (due[i].indexOf(next) >= 0 ? 1 : 0));
                }
            }
        });
        Edge.term("Input text", 12, "of any length", () -> {
            errorAt(FULL, 60);
            errorAt(NEARLY_FULL + ";", 60);
            errorAt(NEARLY_FULL + ",", 60);
            errorAt(FULL.substring(0, 58) + ";a", 60);
            errorAt(NEARLY_FULL + "a", 59);
        });
    }

    private static void append() {
        Edge.promise(10, "Appends a character to the buffer.", () -> {
            HydrantRounds x = Sample.typed("c1");
            x.append('1');
            x.rounds();
            Check.same("behind the others", 11, x.round(2, 0));
        });
        Edge.allows(10, "`code`: the character code, 33 to 126", (x, code) -> x.append(code), 33, 126);
        Edge.promise(10, "Returns the new length of the buffer.", () -> {
            HydrantRounds x = new HydrantRounds();
            for (int length = 1; length <= 60; length++) {
                Check.same("append", length, x.append(33 + length));
            }
            x.clearBuffer();
            Check.same("append to an empty one", 1, x.append(126));
        });
        Edge.refuses(10, "Throws `IllegalArgumentException` if code is not 33 to 126", Edge.ARGUMENT,
            (x, code) -> x.append(code), Edge.beside(33, 126));
        Edge.refuses(10, "Throws `IllegalArgumentException` if code is not 33 to 126", Edge.ARGUMENT,
            (x, code) -> x.append(code), 0, -1, 'a' + 256, 'a' + 65536);
        Edge.promise(10, "Throws `IllegalStateException` if the buffer has 60 characters", () -> {
            HydrantRounds x = Sample.typed(FULL.substring(0, 59));
            x.append('5');
            for (int code : new int[] {33, 'a', 126}) {
                Check.refuses(x, "append(" + code + ")", Edge.STATE, () -> x.append(code));
            }
            x.rounds();
            Check.same("there is room again", 1, x.append('a'));
        });
    }

    private static void clearBuffer() {
        Edge.promise(11, "Clears the buffer.", () -> {
            for (String text : new String[] {"", "?", "a0", FULL}) {
                HydrantRounds x = Sample.typed(text);
                x.clearBuffer();
                Check.same("length", 0, x.clearBuffer());
                Check.same("firstError", 0, x.firstError());
                Check.refuses(x, "rounds", Edge.ARGUMENT, x::rounds);
                Check.type(x, "c3");
                Check.same("what is typed then", 1, x.rounds());
            }
        });
        Edge.promise(11, "Returns the length that it had.", () -> {
            for (String text : new String[] {"", "?", "a0", FULL.substring(0, 59), FULL}) {
                Check.same("length of " + text, text.length(), Sample.typed(text).clearBuffer());
            }
        });
    }

    private static void firstError() {
        Edge.promise(12, "Finds the first syntax error of the buffer.", () -> {
            errorAt("!!", 0);
            errorAt("a!!", 1);
            errorAt(FULL.substring(0, 58) + "!!", 58);
        });
        Edge.promise(12, "Returns the index of the first character that is a syntax error", () -> {
            errorAt("~", 0);
            errorAt(FULL.substring(0, 59) + "~", 59);
            HydrantRounds x = Sample.typed("a0~");
            Check.same("once", 2, x.firstError());
            x.append('~');
            Check.same("with another one behind it", 2, x.firstError());
        });
        Edge.promise(12, "the length of the buffer if there is none", () -> {
            errorAt("", 0);
            errorAt("a", 1);
            errorAt("a1", 2);
            errorAt("a1,", 3);
            errorAt("a1;", 3);
            errorAt(FULL, 60);
        });
    }

    private static void rounds() {
        Edge.promise(13, "Gives crews the rounds in the buffer in place of their own", () -> {
            HydrantRounds x = new HydrantRounds();
            Sample.give(x, "a0,1,2,3,4,5,6,7;b9");
            Sample.give(x, "a11,10;b1,1,1,1,1,1,1,1");
            int[] due = {11, 10, -1, -1, -1, -1, -1, -1, -1};
            for (int place = 0; place < due.length; place++) {
                Check.same("crew 0 at " + place, due[place], x.round(0, place));
                Check.same("crew 1 at " + place, place < 8 ? 1 : -1, x.round(1, place));
            }
        });
        Edge.promise(13, "and clears the buffer", () -> {
            HydrantRounds x = Sample.typed(FULL);
            x.rounds();
            Check.same("length", 0, x.clearBuffer());
        });
        Edge.promise(13, "Undoable.", () -> {
            HydrantRounds x = new HydrantRounds();
            x.send(0, 3);
            x.dirt(3, 200);
            Object before = Look.at(x);
            for (String text : new String[] {"a1;b2", "a3"}) {
                Check.type(x, text);
                x.rounds();
                Check.same("saved states", 3, x.count(8));
                Check.same("undo", 2, x.undo());
                Check.isTrue(text + " is not undone", before.equals(Look.at(x)));
                Check.same("the buffer stays empty", 0, x.clearBuffer());
            }
        });
        Edge.promise(13, "Returns how many streets all rounds have together then.", () -> {
            HydrantRounds x = Sample.typed("a1,1,1,1,1,1,1,1;b2,2,2,2,2,2,2,2");
            x.send(2, 5);
            Check.same("two full ones, and one of its own", 17, x.rounds());
            Check.type(x, "c3,3,3,3,3,3,3,3");
            Check.same("three full ones", 24, x.rounds());
            Check.type(x, "b1");
            Check.same("less", 17, x.rounds());
            gives("c11", 1);
        });
    }

    private static void crewsThatAreTold() {
        Edge.promise(13, "the last one told, where a crew is told several times", () -> {
            HydrantRounds x = Sample.typed("a1,2,3;b4;a5,6;b7,8,9;a10");
            Check.same("rounds", 4, x.rounds());
            Check.same("crew 0", 10, x.round(0, 0));
            Check.same("nothing behind it", Edge.NONE, x.round(0, 1));
            Check.same("crew 1", 7, x.round(1, 0));
            Check.same("its third", 9, x.round(1, 2));
        });
        Edge.promise(13, "those that are not told keep theirs", () -> {
            for (int told = 0; told < 3; told++) {
                HydrantRounds x = new HydrantRounds();
                Sample.give(x, "a1,2;b3,4;c5,6");
                Sample.give(x, (char) ('a' + told) + "11");
                for (int crew = 0; crew < 3; crew++) {
                    Check.same("first of " + crew, crew == told ? 11 : 2 * crew + 1, x.round(crew, 0));
                    Check.same("second of " + crew, crew == told ? -1 : 2 * crew + 2, x.round(crew, 1));
                }
            }
        });
    }

    private static void incompleteRounds() {
        Edge.promise(13, "Throws `IllegalArgumentException` if the buffer is not complete rounds as a text", () -> {
            String[] texts = {"", "a", "a1,", "a1;", "a1;b", "a1;b2,", "d1", "a12", "a00", "a1,2,3,4,5,6,7,8,9", "a1b2", "1",
                ";", ",", "a1;;b2", "a1~", NEARLY_FULL + ",", NEARLY_FULL + ";", NEARLY_FULL + "a",
                FULL.substring(0, 58) + ";a"};
            for (String text : texts) {
                HydrantRounds x = Sample.typed(text);
                x.send(0, 4);
                Check.refuses(x, "rounds of " + text, Edge.ARGUMENT, x::rounds);
                Check.same("the round stays", 4, x.round(0, 0));
                Check.same("no state is saved", 1, x.count(8));
                Check.same("the buffer stays", text.length(), x.clearBuffer());
            }
            gives(FULL, 21);
        });
    }
}
