/** Promises 1 to 5: a new object, pressure, valve, dirt, hydrant. */
final class StreetsTest {
    public static void main(String[] args) {
        newObject();
        newObjectsShareNothing();
        pressure();
        valve();
        dirt();
        hydrant();
        Check.ends("StreetsTest");
    }

    /** Promise 1. */
    private static void newObject() {
        HydrantRounds x = new HydrantRounds();
        Check.same("NONE", -1, HydrantRounds.NONE);
        for (int street = 0; street < 12; street++) {
            int source = street % 4 == 0 ? -1 : street - 1;
            int[] due = {0, 10, 0, 40 - street % 4, source, 0, 0, 0};
            for (int what = 0; what < 8; what++) {
                Check.same("new street " + street + ", " + what, due[what], x.street(street, what));
            }
        }
        for (int crew = 0; crew < 3; crew++) {
            Check.same("new round", -1, x.round(crew, 0));
            Check.same("new crew rests", -1, x.waits(crew));
        }
        for (int what = 0; what < 9; what++) {
            Check.same("new count " + what, 0, x.count(what));
        }
        Check.same("setting 0", 20, x.setting(0));
        Check.same("setting 1", 15, x.setting(1));
        Check.same("setting 2", 2, x.setting(2));
        Check.same("setting 3", 1, x.setting(3));
        Check.same("new buffer", 0, x.clearBuffer());
        Check.same("new firstError", 0, x.firstError());
        Check.same("new cleanShare", 1.0, x.cleanShare());
        Check.refuses(x, "new undo", IllegalStateException.class, x::undo);
    }

    private static void newObjectsShareNothing() {
        HydrantRounds x = new HydrantRounds();
        long fresh = x.digest();
        HydrantRounds y = new HydrantRounds();
        y.dirt(3, 500);
        y.send(0, 3);
        y.set(3, 20);
        y.append('a');
        y.pass(3);
        Check.same("another object's digest", fresh, x.digest());
        Check.same("a new object's digest", fresh, new HydrantRounds().digest());
    }

    /** Promise 2. */
    private static void pressure() {
        HydrantRounds x = new HydrantRounds();
        Check.same("pressure(0, 50)", 40, x.pressure(0, 50));
        Check.same("pressure(0, 99)", 50, x.pressure(0, 99));
        Check.same("pressure(0, 0)", 99, x.pressure(0, 0));
        Check.same("pressure(1, 2)", 40, x.pressure(1, 2));
        Check.same("pressure(2, 77)", 40, x.pressure(2, 77));
        int[] due = {0, 0, 0, 0, 2, 1, 0, 0, 77, 76, 75, 74};
        for (int street = 0; street < 12; street++) {
            Check.same("pressure at " + street, due[street], x.street(street, 3));
        }
        Check.same("saved", 5, x.count(8));
        Check.undoable(x, "pressure(1, 60)", () -> x.pressure(1, 60));
        Check.undoable(x, "pressure(1, 2) again", () -> x.pressure(1, 2));
        for (int zone : new int[] {-1, 3, Integer.MIN_VALUE, Integer.MAX_VALUE}) {
            Check.refuses(x, "pressure of zone " + zone, IndexOutOfBoundsException.class, () -> x.pressure(zone, 5));
            Check.refuses(x, "both wrong", IndexOutOfBoundsException.class, () -> x.pressure(zone, 100));
        }
        for (int pressure : new int[] {-1, 100, Integer.MIN_VALUE, Integer.MAX_VALUE}) {
            Check.refuses(x, "pressure " + pressure, IllegalArgumentException.class, () -> x.pressure(2, pressure));
        }
    }

    /** Promise 3, and the pressure behind valves. */
    private static void valve() {
        HydrantRounds x = new HydrantRounds();
        x.pressure(0, 20);
        Check.same("valve(0, true)", 0, x.valve(0, true));
        Check.same("valve(0, true) again", 1, x.valve(0, true));
        Check.same("source of 4", 3, x.street(4, 4));
        Check.same("source of 8", -1, x.street(8, 4));
        int[] one = {20, 19, 18, 17, 17, 17, 17, 17, 40, 39, 38, 37};
        for (int street = 0; street < 12; street++) {
            Check.same("valve 0 open, pressure at " + street, one[street], x.street(street, 3));
        }
        Check.same("valve(1, true)", 0, x.valve(1, true));
        Check.same("source of 8 then", 7, x.street(8, 4));
        Check.same("pressure at 8 behind both", 17, x.street(8, 3));
        Check.same("pressure at 11 behind both", 17, x.street(11, 3));
        Check.same("valve(0, false)", 1, x.valve(0, false));
        Check.same("valve(0, false) again", 0, x.valve(0, false));
        Check.same("source of 4 then", -1, x.street(4, 4));
        Check.same("pressure at 8 behind valve 1", 37, x.street(8, 3));
        Check.same("pressure at 11 behind valve 1", 37, x.street(11, 3));
        x.pressure(1, 2);
        Check.same("never below 0 behind a valve", 0, x.street(8, 3));
        x.pressure(1, 90);
        Check.same("the lower one is its own", 40, x.street(8, 3));
        Check.undoable(x, "valve(0, true)", () -> x.valve(0, true));
        Check.undoable(x, "valve(1, true) as it is", () -> x.valve(1, true));
        for (int zone : new int[] {-1, 2, 3, Integer.MIN_VALUE, Integer.MAX_VALUE}) {
            Check.refuses(x, "valve " + zone, IndexOutOfBoundsException.class, () -> x.valve(zone, true));
        }
    }

    /** Promise 4. */
    private static void dirt() {
        HydrantRounds x = new HydrantRounds();
        for (int street = 0; street < 12; street++) {
            Check.same("dirt of new " + street, 0, x.dirt(street, 10 + street));
        }
        for (int street = 0; street < 12; street++) {
            Check.same("street " + street, 10 + street, x.street(street, 0));
        }
        Check.same("dirt(11, 999)", 21, x.dirt(11, 999));
        Check.same("dirt(11, 0)", 999, x.dirt(11, 0));
        Check.same("dirt(11, 0) again", 0, x.dirt(11, 0));
        Check.undoable(x, "dirt(5, 700)", () -> x.dirt(5, 700));
        Check.undoable(x, "dirt(11, 0)", () -> x.dirt(11, 0));
        for (int street : new int[] {-1, 12, Integer.MIN_VALUE, Integer.MAX_VALUE}) {
            Check.refuses(x, "dirt of " + street, IndexOutOfBoundsException.class, () -> x.dirt(street, 5));
            Check.refuses(x, "both wrong", IndexOutOfBoundsException.class, () -> x.dirt(street, -1));
        }
        for (int dirt : new int[] {-1, 1000, Integer.MIN_VALUE, Integer.MAX_VALUE}) {
            Check.refuses(x, "dirt " + dirt, IllegalArgumentException.class, () -> x.dirt(0, dirt));
        }
    }

    /** Promise 5. */
    private static void hydrant() {
        HydrantRounds x = new HydrantRounds();
        for (int street = 0; street < 12; street++) {
            Check.same("hydrant of new " + street, 10, x.hydrant(street, 11 + street));
        }
        for (int street = 0; street < 12; street++) {
            Check.same("hydrant " + street, 11 + street, x.street(street, 1));
        }
        Check.same("hydrant(11, 30)", 22, x.hydrant(11, 30));
        Check.same("hydrant(11, 1)", 30, x.hydrant(11, 1));
        Check.same("hydrant(11, 1) again", 1, x.hydrant(11, 1));
        Check.same("a shut one takes nothing", 37, x.street(11, 3));
        Check.undoable(x, "hydrant(5, 7)", () -> x.hydrant(5, 7));
        Check.undoable(x, "hydrant(11, 1)", () -> x.hydrant(11, 1));
        for (int street : new int[] {-1, 12, Integer.MIN_VALUE, Integer.MAX_VALUE}) {
            Check.refuses(x, "hydrant of " + street, IndexOutOfBoundsException.class, () -> x.hydrant(street, 5));
            Check.refuses(x, "both wrong", IndexOutOfBoundsException.class, () -> x.hydrant(street, 0));
        }
        for (int takes : new int[] {0, -1, 31, Integer.MIN_VALUE, Integer.MAX_VALUE}) {
            Check.refuses(x, "takes " + takes, IllegalArgumentException.class, () -> x.hydrant(0, takes));
        }
    }
}
