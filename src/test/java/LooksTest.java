/** Promises 15 to 19: street, round, count, setting, waits. */
final class LooksTest {
    private static final int[] FAR = {Integer.MIN_VALUE, Integer.MAX_VALUE, -1};

    public static void main(String[] args) {
        street();
        round();
        count();
        setting();
        waits();
        waitsForTheFirstReason();
        Check.ends("LooksTest");
    }

    /** A day's work, the same as in the count's numbers below. */
    private static HydrantRounds worked() {
        HydrantRounds x = new HydrantRounds();
        x.dirt(0, 30);
        x.dirt(3, 999);
        x.valve(0, true);
        x.dirt(4, 990);
        x.hydrant(0, 12);
        Check.type(x, "a0;b3,2;c1,1");
        x.rounds();
        x.pass(2);
        return x;
    }

    /*
     * Hour 1: crew 0 opens 0 (40 - 12 = 28), crew 1 opens 3 (40 - 3 - 22 = 15), crew 2 waits for 0 that is brown.
     * Flushed: 30 of 0, which leaves the round; 15 * 2 = 30 of 3: 969. 4 sends 99 to 5: 891; 3 is open and keeps its dirt.
     * Then 1, 1, 1, 970, 892, 100 and 1 for the rest; 3, 4 and 5 are brown: 3 complaints.
     * Hour 2: crew 0 rests, crew 1 opens 3 (40 - 3 - 10 = 27), crew 2 opens 1 (40 - 1 - 20 = 19).
     * Flushed: 1 of 1, which leaves the round; 3 has 40 - 3 - 20 = 17, times 2: 34, 936.
     * 5 sends 10 to 6; 4 sends 89 to 5. Then 2, 1, 2, 937, 804, 180, 12 and 2 for the rest: 6 complaints.
     */
    private static final int[][] STREETS = {
        {2, 12, 0, 40, -1, 0, 30, 1},
        {1, 10, 0, 39, 0, 0, 1, 1},
        {2, 10, 0, 38, 1, 0, 0, 0},
        {937, 10, 1, 37, 2, 3, 64, 2},
        {804, 10, 1, 37, 3, 3, 0, 0},
        {180, 10, 1, 37, 4, 3, 0, 0},
        {12, 10, 0, 37, 5, 0, 0, 0},
        {2, 10, 0, 37, 6, 0, 0, 0},
        {2, 10, 0, 40, -1, 0, 0, 0},
        {2, 10, 0, 39, 8, 0, 0, 0},
        {2, 10, 0, 38, 9, 0, 0, 0},
        {2, 10, 0, 37, 10, 0, 0, 0},
    };

    /** Promise 15. */
    private static void street() {
        HydrantRounds x = worked();
        for (int street = 0; street < 12; street++) {
            for (int what = 0; what < 8; what++) {
                Check.same("street(" + street + ", " + what + ")", STREETS[street][what], x.street(street, what));
            }
        }
        x.set(0, 99);
        Check.same("180 is brown", 1, x.street(5, 2));
        x.dirt(5, 99);
        Check.same("99 is not", 0, x.street(5, 2));
        x.dirt(5, 100);
        Check.same("100 is", 1, x.street(5, 2));
        x.pressure(0, 2);
        Check.same("pressure at 2", 0, x.street(2, 3));
        Check.same("pressure at 3", 0, x.street(3, 3));
        x.pressure(0, 40);
        x.send(0, 0);
        x.waits(0);
        Check.same("hydrants are shut", 40, x.street(0, 3));
        x.leastPressure(0);
        Check.same("hydrants are still shut", 40, x.street(0, 3));
        x.pass(1);
        Check.same("hydrants are shut behind the hour", 40, x.street(0, 3));
        for (int wrong : FAR) {
            Check.refuses(x, "street " + wrong, IndexOutOfBoundsException.class, () -> x.street(wrong, 0));
            Check.refuses(x, "what " + wrong, IllegalArgumentException.class, () -> x.street(0, wrong));
            Check.refuses(x, "both", IndexOutOfBoundsException.class, () -> x.street(wrong, wrong));
        }
        Check.refuses(x, "street 12", IndexOutOfBoundsException.class, () -> x.street(12, 8));
        Check.refuses(x, "what 8", IllegalArgumentException.class, () -> x.street(11, 8));
    }

    /** Promise 16. */
    private static void round() {
        HydrantRounds x = worked();
        int[][] due = {{-1, -1, -1}, {3, 2, -1}, {1, -1, -1}};
        for (int crew = 0; crew < 3; crew++) {
            for (int place = 0; place < 3; place++) {
                Check.same("round(" + crew + ", " + place + ")", due[crew][place], x.round(crew, place));
            }
            Check.same("place 7", -1, x.round(crew, 7));
            Check.same("place 8", -1, x.round(crew, 8));
            Check.same("a far place", -1, x.round(crew, Integer.MAX_VALUE));
        }
        x.clearBuffer();
        Check.type(x, "a11,10,9,8,7,6,5,4");
        x.rounds();
        for (int place = 0; place < 8; place++) {
            Check.same("place " + place, 11 - place, x.round(0, place));
        }
        Check.same("place 8 of a full one", -1, x.round(0, 8));
        for (int crew : new int[] {-1, 3, Integer.MIN_VALUE, Integer.MAX_VALUE}) {
            Check.refuses(x, "crew " + crew, IndexOutOfBoundsException.class, () -> x.round(crew, 0));
            Check.refuses(x, "both wrong", IndexOutOfBoundsException.class, () -> x.round(crew, -1));
        }
        Check.refuses(x, "place -1", IllegalArgumentException.class, () -> x.round(0, -1));
        Check.refuses(x, "the least place", IllegalArgumentException.class, () -> x.round(0, Integer.MIN_VALUE));
    }

    /** Promise 17. */
    private static void count() {
        HydrantRounds x = worked();
        int[] due = {2, 1948, 3, 9, 95, 1, 3, 0, 6};
        for (int what = 0; what < 9; what++) {
            Check.same("count(" + what + ")", due[what], x.count(what));
        }
        x.dirt(5, 999);
        Check.same("6 gets brown, too", 7, x.pass(1));
        Check.same("5 sent on more than it got", 0, x.count(7));
        x.dirt(4, 999);
        x.dirt(7, 999);
        x.dirt(6, 999);
        x.pass(1);
        Check.same("lost: 99 and 1 of 7", 100, x.count(7));
        Check.same("hours", 4, x.count(0));
        x.undo();
        Check.same("what is counted is undone", 0, x.count(7));
        for (int what : new int[] {-1, 9, Integer.MIN_VALUE, Integer.MAX_VALUE}) {
            Check.refuses(x, "count(" + what + ")", IllegalArgumentException.class, () -> x.count(what));
        }
    }

    /** Promise 18. */
    private static void setting() {
        HydrantRounds x = new HydrantRounds();
        int[] due = {7, 60, 9, 0};
        for (int setting = 0; setting < 4; setting++) {
            x.set(setting, due[setting]);
        }
        for (int setting = 0; setting < 4; setting++) {
            Check.same("setting(" + setting + ")", due[setting], x.setting(setting));
        }
        for (int setting : new int[] {-1, 4, Integer.MIN_VALUE, Integer.MAX_VALUE}) {
            Check.refuses(x, "setting " + setting, IndexOutOfBoundsException.class, () -> x.setting(setting));
        }
    }

    /** Promise 19. */
    private static void waits() {
        HydrantRounds x = new HydrantRounds();
        Check.same("it rests", -1, x.waits(0));
        x.send(0, 1);
        Check.same("it would work", 0, x.waits(0));
        x.pressure(0, 26);
        Check.same("26 - 1 - 10 is 15", 0, x.waits(0));
        x.pressure(0, 25);
        Check.same("25 - 1 - 10 is 14", 2, x.waits(0));
        x.set(1, 14);
        Check.same("14 is enough then", 0, x.waits(0));
        x.dirt(0, 20);
        Check.same("20 ahead is not brown", 0, x.waits(0));
        x.dirt(0, 21);
        Check.same("21 ahead is", 3, x.waits(0));
        x.send(1, 0);
        Check.same("0 has water from the works", 0, x.waits(1));
        x.dirt(3, 999);
        x.send(2, 4);
        Check.same("the valve is shut", 0, x.waits(2));
        x.pressure(0, 40);
        x.valve(0, true);
        Check.same("3 is brown and ahead", 3, x.waits(2));
        x.set(1, 0);
        x.pressure(1, 0);
        x.dirt(3, 0);
        Check.same("no pressure is needed", 0, x.waits(2));
        long before = x.digest();
        x.waits(2);
        Check.same("waits changes nothing", before, x.digest());
        for (int crew : new int[] {-1, 3, Integer.MIN_VALUE, Integer.MAX_VALUE}) {
            Check.refuses(x, "waits(" + crew + ")", IndexOutOfBoundsException.class, () -> x.waits(crew));
        }
    }

    private static void waitsForTheFirstReason() {
        HydrantRounds x = new HydrantRounds();
        x.pressure(0, 26);
        x.send(0, 1);
        x.send(1, 1);
        x.send(2, 2);
        Check.same("crew 0", 0, x.waits(0));
        Check.same("1 ahead of 2", 1, x.waits(1));
        x.dirt(1, 999);
        Check.same("2 ahead of 3", 2, x.waits(2));
        x.pressure(0, 99);
        Check.same("3 with pressure", 3, x.waits(2));
        x.dirt(0, 999);
        Check.same("crew 0 waits", 3, x.waits(0));
        Check.same("then no lower crew works on it", 3, x.waits(1));
        HydrantRounds y = new HydrantRounds();
        y.send(0, 2);
        y.send(1, 1);
        y.send(2, 0);
        Check.same("40 - 2 - 10", 0, y.waits(0));
        Check.same("40 - 1 - 20", 0, y.waits(1));
        Check.same("40 - 30", 2, y.waits(2));
        y.hydrant(0, 5);
        Check.same("40 - 25", 0, y.waits(2));
        y.hydrant(0, 6);
        Check.same("40 - 26", 2, y.waits(2));
        y.dirt(0, 50);
        Check.same("a crew that waits opens nothing", 3, y.waits(1));
        Check.same("so there is pressure", 0, y.waits(2));
    }
}
