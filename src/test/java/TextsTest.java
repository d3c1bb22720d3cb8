/** Promises 10 to 14: append, clearBuffer, firstError, rounds, undo. */
final class TextsTest {
    public static void main(String[] args) {
        append();
        clearBuffer();
        firstError();
        firstErrorAtEveryCode();
        rounds();
        incompleteRounds();
        undo();
        undoOfEverything();
        Check.ends("TextsTest");
    }

    /** Promise 10. */
    private static void append() {
        HydrantRounds x = new HydrantRounds();
        for (int code : new int[] {32, 127, 0, -1, 'a' + 65536, Integer.MIN_VALUE, Integer.MAX_VALUE}) {
            Check.refuses(x, "append(" + code + ")", IllegalArgumentException.class, () -> x.append(code));
        }
        Check.same("append(33)", 1, x.append(33));
        Check.same("append(126)", 2, x.append(126));
        for (int length = 3; length <= 60; length++) {
            Check.same("append", length, x.append('a'));
        }
        Check.refuses(x, "append to a full buffer", IllegalStateException.class, () -> x.append('a'));
        Check.refuses(x, "both wrong", IllegalArgumentException.class, () -> x.append(32));
        Check.same("no state is saved", 0, x.count(8));
    }

    /** Promise 11. */
    private static void clearBuffer() {
        HydrantRounds x = Sample.typed("a0;;");
        Check.same("clearBuffer()", 4, x.clearBuffer());
        Check.same("clearBuffer() again", 0, x.clearBuffer());
        Check.same("append", 1, x.append('a'));
        Check.same("firstError of a", 1, x.firstError());
        Check.same("no state is saved", 0, x.count(8));
    }

    private static void errorAt(String text, int due) {
        Check.same("firstError of " + text, due, Sample.typed(text).firstError());
    }

    /** Promise 12. */
    private static void firstError() {
        errorAt("", 0);
        errorAt("a", 1);
        errorAt("d0", 0);
        errorAt("A0", 0);
        errorAt("0", 0);
        errorAt(";", 0);
        errorAt("aa", 1);
        errorAt("a,", 1);
        errorAt("a;", 1);
        errorAt("a0", 2);
        errorAt("a00", 2);
        errorAt("a01", 2);
        errorAt("a10", 3);
        errorAt("a11", 3);
        errorAt("a12", 2);
        errorAt("a110", 3);
        errorAt("a20", 2);
        errorAt("a90", 2);
        errorAt("a0b1", 2);
        errorAt("a1b1", 2);
        errorAt("a0,", 3);
        errorAt("a0,,", 3);
        errorAt("a0,;", 3);
        errorAt("a0,b", 3);
        errorAt("a0;", 3);
        errorAt("a0;;", 3);
        errorAt("a0;,", 3);
        errorAt("a0;1", 3);
        errorAt("a0;a0;a0", 8);
        errorAt("a10,11,9;b1;c1,1", 16);
        errorAt("a1,2,3,4,5,6,7,8", 16);
        errorAt("a1,2,3,4,5,6,7,8;", 17);
        errorAt("a1,2,3,4,5,6,7,8,", 16);
        errorAt("a1,1,1,1,1,1,1,1,", 16);
        errorAt("a1,1,1,1,1,1,1,11", 17);
        errorAt("a11,11,11,11,11,11,11,11,", 24);
        errorAt("a0,1,2,3,4;b0,1,2,3,4;c0,1,2,3,4,5,6,7;a0,1,2,3,4,5,6,7", 55);
        errorAt("a10,11,10,11,10,11,10,11;b10,11,10,11,10,11,10,11;c10,11,10,", 60);
        errorAt("a10,11,10,11,10,11,10,11;b10,11,10,11,10,11,10,11;a;c0,0,0,0", 51);
        HydrantRounds x = Sample.typed("a0,1");
        x.firstError();
        Check.same("firstError changes nothing", 4, x.clearBuffer());
    }

    private static void firstErrorAtEveryCode() {
        String[] before = {"", "a", "b0", "c1", "a10", "a2,", "b2;", "a1,1,1,1,1,1,1,2", "a1,1,1,1,1,1,1,1"};
        String[] allowed = {"abc", "0123456789", ",;", "01,;", ",;", "0123456789", "abc", ";", "01;"};
        for (int i = 0; i < before.length; i++) {
            for (char c = 33; c <= 126; c++) {
                int due = before[i].length() + (allowed[i].indexOf(c) >= 0 ? 1 : 0);
                errorAt(before[i] + c, due);
            }
        }
    }

    /** Promise 13. */
    private static void rounds() {
        HydrantRounds x = new HydrantRounds();
        x.send(0, 8);
        x.send(1, 9);
        x.send(1, 9);
        x.send(2, 10);
        Check.type(x, "b11,0,1;a3;b10,2");
        Check.same("rounds()", 4, x.rounds());
        int[][] due = {{3, -1, -1}, {10, 2, -1}, {10, -1, -1}};
        for (int crew = 0; crew < 3; crew++) {
            for (int place = 0; place < 3; place++) {
                Check.same("round " + crew + " at " + place, due[crew][place], x.round(crew, place));
            }
        }
        Check.same("it saves a state", 5, x.count(8));
        Check.same("it clears the buffer", 0, x.clearBuffer());
        Check.type(x, "c0,1,2,3,4,5,6,11");
        Check.same("eight streets", 11, x.rounds());
        Check.same("the eighth", 11, x.round(2, 7));
        Check.refuses(x, "a ninth", IllegalStateException.class, () -> x.send(2, 0));
        Check.same("undo", 5, x.undo());
        Check.same("the round from before", 10, x.round(2, 0));
        Check.same("its end", -1, x.round(2, 1));
        Check.same("undo leaves the buffer", 0, x.clearBuffer());
        Check.type(x, "a3;b10,2;c10");
        Check.same("the same rounds", 4, x.rounds());
        Check.same("a state is saved all the same", 6, x.count(8));
    }

    private static void incompleteRounds() {
        String[] texts = {"", "a", "a0,", "a0;", "a0;b", "a0;b1,", "d0", "a12", "a00", "a1,2,3,4,5,6,7,8,9", "a0b1", "x",
            "a0;x", ";a0", ",", "a0;b0,1;;c1"};
        for (String text : texts) {
            HydrantRounds x = Sample.typed(text);
            x.send(0, 4);
            Check.refuses(x, "rounds of " + text, IllegalArgumentException.class, x::rounds);
            Check.same("the buffer stays", text.length(), x.clearBuffer());
            Check.same("the round stays", 4, x.round(0, 0));
        }
        for (String text : new String[] {"a1", "b0", "c11", "a0,0,0,0,0,0,0,0", "a1,1,1,1,1,1,1,1"}) {
            Check.same("rounds of " + text, text.length() > 3 ? 8 : 1, Sample.typed(text).rounds());
        }
    }

    /** Promise 14. */
    private static void undo() {
        HydrantRounds x = new HydrantRounds();
        Check.refuses(x, "undo", IllegalStateException.class, x::undo);
        for (int dirt = 1; dirt <= 8; dirt++) {
            x.dirt(0, dirt);
            Check.same("saved", Math.min(dirt, 6), x.count(8));
        }
        x.append('a');
        for (int left = 5; left >= 0; left--) {
            Check.same("undo()", left, x.undo());
            Check.same("saved", left, x.count(8));
            Check.same("dirt", left + 2, x.street(0, 0));
        }
        Check.refuses(x, "undo of the seventh", IllegalStateException.class, x::undo);
        Check.same("the buffer stays", 1, x.clearBuffer());
        x.dirt(0, 50);
        x.dirt(0, 60);
        x.undo();
        x.dirt(0, 70);
        Check.same("undo", 1, x.undo());
        Check.same("dirt", 50, x.street(0, 0));
        Check.same("undo", 0, x.undo());
        Check.same("dirt", 2, x.street(0, 0));
    }

    private static void undoOfEverything() {
        HydrantRounds x = new HydrantRounds();
        x.dirt(1, 999);
        x.dirt(3, 999);
        x.send(0, 1);
        x.send(1, 1);
        x.send(2, 3);
        x.pass(3);
        Object before = Look.at(x);
        int next = x.ifPassed(1, 0);
        x.pass(48);
        x.valve(1, true);
        x.hydrant(2, 3);
        x.set(1, 1);
        x.pressure(2, 1);
        Check.type(x, "a2;c4,5");
        x.rounds();
        for (int i = 0; i < 6; i++) {
            x.undo();
        }
        Check.isTrue("all is as before", before.equals(Look.at(x)));
        Check.same("also what was brown", next, x.pass(1));
    }
}
