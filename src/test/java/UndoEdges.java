import java.util.ArrayList;
import java.util.List;

/** Saved states, refused calls and looks, which change nothing, and promise 14. */
final class UndoEdges {
    private UndoEdges() {
    }

    static void all() {
        whatSavesAState();
        whatIsSaved();
        atMostSix();
        refusedCalls();
        firstException();
        looks();
        undo();
        calls();
    }

    /** Each call that is marked undoable, by a number: first such that change something, then such that do not. */
    private static final int UNDOABLE = 18;

    private static Object undoable(HydrantRounds x, int call) {
        switch (call) {
            case 0: return x.pressure(1, 77);
            case 1: return x.valve(0, true);
            case 2: return x.dirt(2, 345);
            case 3: return x.hydrant(8, 3);
            case 4: return x.send(1, 10);
            case 5: return x.skip(0);
            case 6: return x.set(3, 9);
            case 7: return x.pass(3);
            case 8: return given(x, "a1,2;b9");
            case 9: return x.pressure(1, 40);
            case 10: return x.valve(1, true);
            case 11: return x.dirt(2, x.street(2, 0));
            case 12: return x.hydrant(8, 10);
            case 13: return x.set(1, 15);
            case 14: return x.set(2, 2);
            case 15: return x.valve(0, false);
            case 16: return x.pass(48);
            default: return x.set(0, 20);
        }
    }

    private static int given(HydrantRounds x, String text) {
        x.clearBuffer();
        Check.type(x, text);
        return x.rounds();
    }

    private static void whatSavesAState() {
        Edge.term("Undo", 14, "Each method that is marked \"undoable\"", () -> {
            for (int call = 0; call < UNDOABLE; call++) {
                HydrantRounds x = Sample.busy();
                undoable(x, call);
                Check.same("saved behind call " + call, 6, x.count(8));
            }
            HydrantRounds x = Sample.busy();
            x.append('a');
            x.firstError();
            x.clearBuffer();
            Check.same("the other calls save none", 5, x.count(8));
            x.undo();
            Check.same("nor does undo", 4, x.count(8));
        });
        Edge.term("Undo", 14, "and does not throw an exception saves the state", () -> {
            HydrantRounds x = Sample.busy();
            for (int call = 0; call < REFUSED; call++) {
                refused(x, call);
            }
            Check.same("saved behind refused calls", 5, x.count(8));
        });
        Edge.term("Undo", 14, "(also if it changes nothing)", () -> {
            HydrantRounds x = new HydrantRounds();
            Object before = Look.at(x);
            x.pressure(0, 40);
            x.valve(0, false);
            x.dirt(0, 0);
            x.hydrant(0, 10);
            x.skip(0);
            x.set(0, 20);
            Check.same("saved", 6, x.count(8));
            Check.isTrue("something is changed", before.equals(Look.at(x)));
            for (int left = 5; left >= 0; left--) {
                Check.same("undo", left, x.undo());
                Check.isTrue("something is changed", before.equals(Look.at(x)));
            }
        });
    }

    private static void whatIsSaved() {
        Edge.term("Undo", 14, "from before it", () -> {
            for (int call = 0; call < UNDOABLE; call++) {
                HydrantRounds x = Sample.busy();
                Object before = Look.at(x);
                undoable(x, call);
                x.undo();
                Check.isTrue("call " + call + " is not undone", before.equals(Look.at(x)));
            }
        });
        Edge.term("Undo", 14, "all, also what is counted so far", () -> {
            HydrantRounds x = new HydrantRounds();
            x.set(3, 20);
            x.dirt(3, 999);
            Sample.give(x, "a3;b3;c3");
            x.pass(48);
            for (int what : new int[] {0, 1, 3, 4, 5, 7}) {
                Check.isTrue("count(" + what + ") is counted", x.count(what) > 0);
            }
            x.undo();
            int[] due = {0, 999, 1, 0, 0, 0, 3, 0, 3};
            for (int what = 0; what < due.length; what++) {
                Check.same("count(" + what + ")", due[what], x.count(what));
            }
            for (int what = 5; what < 8; what++) {
                Check.same("street(3, " + what + ")", 0, x.street(3, what));
            }
            Check.same("brown is forgotten, too", 1, x.ifPassed(1, 0));
            HydrantRounds y = Sample.still();
            y.dirt(3, 100);
            y.pass(1);
            y.dirt(3, 0);
            y.pass(1);
            y.undo();
            y.undo();
            Check.same("brown is remembered, too", 2, y.ifPassed(1, 0));
        });
        Edge.term("Undo", 14, "but the buffer", () -> {
            HydrantRounds x = Sample.typed("a1");
            x.dirt(0, 5);
            Check.type(x, ",2");
            x.undo();
            Check.same("what is typed stays", 4, x.firstError());
            Check.same("rounds", 2, x.rounds());
            x.undo();
            Check.same("what is cleared stays cleared", 0, x.clearBuffer());
        });
        Edge.term("Undo", 14, "and the saved states", () -> {
            HydrantRounds x = new HydrantRounds();
            for (int dirt = 1; dirt <= 4; dirt++) {
                x.dirt(0, dirt);
            }
            x.undo();
            x.undo();
            Check.same("saved", 2, x.count(8));
            x.dirt(0, 50);
            Check.same("saved behind another call", 3, x.count(8));
            int[] due = {2, 1, 0};
            for (int dirt : due) {
                x.undo();
                Check.same("dirt", dirt, x.street(0, 0));
            }
            Check.same("none is left", 0, x.count(8));
        });
    }

    private static void atMostSix() {
        Edge.term("Undo", 14, "At most 6 states are saved", () -> {
            HydrantRounds x = new HydrantRounds();
            for (int dirt = 1; dirt <= 20; dirt++) {
                x.dirt(0, dirt);
                Check.same("saved behind " + dirt, dirt < 6 ? dirt : 6, x.count(8));
            }
            for (int undone = 0; undone < 6; undone++) {
                x.undo();
            }
            Check.refuses(x, "a seventh undo", Edge.STATE, x::undo);
            List<Object> due = looksBack(full()).subList(0, 6);
            for (int call = 0; call < UNDOABLE; call++) {
                HydrantRounds y = full();
                undoable(y, call);
                Check.same("saved behind call " + call + " of a full object", 6, y.count(8));
                Check.isTrue("call " + call + " of a full object saves another state",
                    due.equals(looksBack(y).subList(1, 7)));
            }
        });
        Edge.term("Undo", 14, "the oldest one is dropped first", () -> {
            for (int calls : new int[] {6, 7, 8, 13, 20}) {
                HydrantRounds x = new HydrantRounds();
                for (int dirt = 1; dirt <= calls; dirt++) {
                    x.dirt(0, dirt);
                }
                for (int back = 1; back <= 6; back++) {
                    x.undo();
                    Check.same("dirt " + back + " of " + calls + " calls back", calls - back, x.street(0, 0));
                }
            }
        });
    }

    /** Each call that can be refused, by a number, with what the document throws for it. */
    private static final int REFUSED = 27;

    private static Class<?> refused(HydrantRounds x, int call) {
        return Check.thrownBy(() -> {
            switch (call) {
                case 0: return x.pressure(3, 50);
                case 1: return x.pressure(2, 100);
                case 2: return x.valve(2, false);
                case 3: return x.dirt(12, 50);
                case 4: return x.dirt(11, 1000);
                case 5: return x.hydrant(-1, 5);
                case 6: return x.hydrant(0, 0);
                case 7: return x.send(3, 5);
                case 8: return x.send(0, 12);
                case 9: return x.skip(3);
                case 10: return x.set(4, 5);
                case 11: return x.set(2, 0);
                case 12: return x.pass(0);
                case 13: return x.pass(49);
                case 14: return x.append(127);
                case 15: return x.rounds();
                case 16: return x.street(12, 0);
                case 17: return x.street(0, 8);
                case 18: return x.round(3, 0);
                case 19: return x.round(0, -1);
                case 20: return x.count(9);
                case 21: return x.setting(4);
                case 22: return x.waits(3);
                case 23: return x.ifPassed(49, 0);
                case 24: return x.ifPassed(1, 4);
                case 25: return x.leastPressure(12);
                default: return x.waits(-1);
            }
        });
    }

    private static void refusedCalls() {
        Edge.term("Exceptions", 14, "A call that throws an exception changes nothing.", () -> {
            List<Long> due = digestsBack(Sample.busy());
            List<Long> dueOfFull = digestsBack(full());
            for (int call = 0; call < REFUSED; call++) {
                HydrantRounds x = Sample.busy();
                Check.isTrue("call " + call + " throws nothing", refused(x, call) != null);
                Check.isTrue("call " + call + " changed the object or a saved state", due.equals(digestsBack(x)));
                HydrantRounds y = full();
                refused(y, call);
                Check.isTrue("call " + call + " changed a full object", dueOfFull.equals(digestsBack(y)));
            }
        });
        Edge.term("Exceptions", 6, "A call that throws an exception changes nothing.", () -> {
            HydrantRounds x = new HydrantRounds();
            Sample.give(x, "a0,1,2,3,4,5,6,7");
            while (x.append('!') < 60) {
                x.firstError();
            }
            for (int i = 0; i < 6; i++) {
                x.dirt(0, i);
            }
            Check.refuses(x, "send to a full round", Edge.STATE, () -> x.send(0, 1));
            Check.refuses(x, "append to a full buffer", Edge.STATE, () -> x.append('a'));
            Check.refuses(x, "rounds of no rounds", Edge.ARGUMENT, x::rounds);
            for (int dirt = 4; dirt >= 0; dirt--) {
                x.undo();
                Check.same("the saved states are as before", dirt, x.street(0, 0));
            }
            x.undo();
            Check.refuses(x, "undo without a state", Edge.STATE, x::undo);
        });
    }

    /** The digests of the object, and of what each undo brings back. */
    private static List<Long> digestsBack(HydrantRounds x) {
        List<Long> digests = new ArrayList<>();
        digests.add(x.digest());
        while (x.count(8) > 0) {
            x.undo();
            digests.add(x.digest());
        }
        return digests;
    }

    /** What can be seen of the object, and of what each undo brings back. */
    private static List<Object> looksBack(HydrantRounds x) {
        List<Object> looks = new ArrayList<>();
        looks.add(Look.at(x));
        while (x.count(8) > 0) {
            x.undo();
            looks.add(Look.at(x));
        }
        return looks;
    }

    /** As many saved states as there can be. */
    private static HydrantRounds full() {
        HydrantRounds x = Sample.busy();
        x.dirt(7, 77);
        return x;
    }

    private static void firstException() {
        String sentence = "If several exceptions apply, the one that is named first in the throws clause is thrown.";
        Edge.term("Exceptions", 2, sentence, () -> {
            HydrantRounds x = Sample.busy();
            Check.refuses(x, "pressure", Edge.INDEX, () -> x.pressure(3, 100));
            Check.refuses(x, "pressure below", Edge.INDEX, () -> x.pressure(-1, -1));
        });
        Edge.term("Exceptions", 4, sentence, () -> {
            HydrantRounds x = Sample.busy();
            Check.refuses(x, "dirt", Edge.INDEX, () -> x.dirt(12, 1000));
            Check.refuses(x, "dirt below", Edge.INDEX, () -> x.dirt(-1, -1));
        });
        Edge.term("Exceptions", 5, sentence, () -> {
            HydrantRounds x = Sample.busy();
            Check.refuses(x, "hydrant", Edge.INDEX, () -> x.hydrant(12, 31));
            Check.refuses(x, "hydrant below", Edge.INDEX, () -> x.hydrant(-1, 0));
        });
        Edge.term("Exceptions", 6, sentence, () -> {
            HydrantRounds x = new HydrantRounds();
            Sample.give(x, "a0,0,0,0,0,0,0,0;b0,0,0,0,0,0,0,0;c0,0,0,0,0,0,0,0");
            Check.refuses(x, "send a street that is none", Edge.INDEX, () -> x.send(0, 12));
            Check.refuses(x, "send to a crew that is none", Edge.INDEX, () -> x.send(3, 0));
        });
        Edge.term("Exceptions", 8, sentence, () -> {
            HydrantRounds x = Sample.busy();
            Check.refuses(x, "set", Edge.INDEX, () -> x.set(4, 100));
            Check.refuses(x, "set below", Edge.INDEX, () -> x.set(-1, -1));
        });
        Edge.term("Exceptions", 10, sentence, () -> {
            HydrantRounds x = Sample.typed("a".repeat(60));
            Check.refuses(x, "append", Edge.ARGUMENT, () -> x.append(127));
            Check.refuses(x, "append below", Edge.ARGUMENT, () -> x.append(32));
        });
        Edge.term("Exceptions", 15, sentence, () -> {
            HydrantRounds x = Sample.busy();
            Check.refuses(x, "street", Edge.INDEX, () -> x.street(12, 8));
            Check.refuses(x, "street below", Edge.INDEX, () -> x.street(-1, -1));
        });
        Edge.term("Exceptions", 16, sentence, () -> {
            HydrantRounds x = Sample.busy();
            Check.refuses(x, "round", Edge.INDEX, () -> x.round(3, -1));
            Check.refuses(x, "round below", Edge.INDEX, () -> x.round(-1, -1));
        });
    }

    private static void looks() {
        Edge.term("Exceptions", 15, "---- looks; nothing is changed.", () -> changeNothing(x -> {
            for (int street = 0; street < 12; street++) {
                for (int what = 0; what < 8; what++) {
                    x.street(street, what);
                }
            }
            for (int i = 0; i < 3; i++) {
                x.round(i, 0);
                x.waits(i);
                x.setting(i);
                x.count(i);
            }
        }));
        Edge.term("Exceptions", 20, "---- what would be; nothing is changed.", () -> changeNothing(x -> {
            for (int what = 0; what < 4; what++) {
                x.ifPassed(48, what);
            }
            x.bestStreet();
            x.clearIn();
            for (int street = 0; street < 12; street++) {
                x.leastPressure(street);
            }
            x.cleanShare();
            x.digest();
        }));
        Edge.promise(12, "Finds the first syntax error of the buffer.", () -> changeNothing(HydrantRounds::firstError));
    }

    private interface Looks {
        void at(HydrantRounds x);
    }

    private static void changeNothing(Looks looks) {
        HydrantRounds x = Sample.busy();
        looks.at(x);
        Check.isTrue("the object or a saved state is changed", digestsBack(Sample.busy()).equals(digestsBack(x)));
        HydrantRounds y = Sample.busy();
        HydrantRounds z = Sample.busy();
        looks.at(y);
        Check.same("hours behind the looks", z.pass(7), y.pass(7));
        Check.isTrue("the hours behind the looks are others", Look.at(z).equals(Look.at(y)));
    }

    private static void undo() {
        Edge.promise(14, "Restores the latest saved state, and drops it.", () -> {
            HydrantRounds x = new HydrantRounds();
            x.dirt(0, 1);
            x.pressure(0, 9);
            x.undo();
            Check.same("the latest is undone", 40, x.street(0, 3));
            Check.same("the one before it is not", 1, x.street(0, 0));
            x.undo();
            Check.same("then it is", 0, x.street(0, 0));
            x.dirt(0, 2);
            x.undo();
            Check.same("a state that is saved behind undo", 0, x.street(0, 0));
        });
        Edge.promise(14, "Returns how many saved states are left.", () -> {
            HydrantRounds x = new HydrantRounds();
            for (int hour = 0; hour < 9; hour++) {
                x.pass(1);
            }
            for (int left = 5; left >= 0; left--) {
                Check.same("undo", left, x.undo());
                Check.same("saved states", left, x.count(8));
            }
            Check.same("hours", 3, x.count(0));
        });
        Edge.promise(14, "Throws `IllegalStateException` if there is none", () -> {
            HydrantRounds x = new HydrantRounds();
            Check.refuses(x, "undo of a new object", Edge.STATE, x::undo);
            x.skip(0);
            Check.same("undo", 0, x.undo());
            Check.refuses(x, "a second undo", Edge.STATE, x::undo);
        });
    }

    private static void calls() {
        Edge.term("What it is", 9, "An object is used for at most 512 calls after it has been made", () -> {
            HydrantRounds x = new HydrantRounds();
            x.set(3, 20);
            for (int street = 0; street < 12; street++) {
                x.dirt(street, 999);
            }
            int complaints = 0;
            for (int call = 13; call < 510; call++) {
                complaints += x.pass(48);
            }
            Check.same("hours", 497 * 48, x.count(0));
            Check.same("complaints", 12 + (497 * 48 - 1) * 24, complaints);
            HydrantRounds y = new HydrantRounds();
            for (int call = 1; call < 512; call++) {
                y.dirt(call % 12, call);
            }
            Check.same("the last call", 501, y.dirt(9, 0));
        });
    }
}
