/** Promises 20 to 25: ifPassed, bestStreet, clearIn, leastPressure, cleanShare, digest. */
final class WouldBeTest {
    public static void main(String[] args) {
        ifPassed();
        bestStreet();
        bestStreetPlaysOneCrew();
        clearIn();
        leastPressure();
        leastPressureBehindValves();
        cleanShare();
        digest();
        Check.ends("WouldBeTest");
    }

    private static HydrantRounds busy() {
        HydrantRounds x = new HydrantRounds();
        for (int street = 0; street < 12; street++) {
            x.dirt(street, 83 * street % 400);
        }
        x.valve(1, true);
        Check.type(x, "a1,2,3,11;b4,6,7;c5,5,8");
        x.rounds();
        x.pass(5);
        return x;
    }

    /** Promise 20. */
    private static void ifPassed() {
        for (int hours : new int[] {1, 2, 6, 12, 47, 48}) {
            HydrantRounds x = busy();
            long before = x.digest();
            int[] told = new int[4];
            for (int what = 0; what < 4; what++) {
                told[what] = x.ifPassed(hours, what);
            }
            Check.same("ifPassed changes nothing", before, x.digest());
            int flushed = x.count(4);
            Check.isTrue("some was flushed before", flushed > 0);
            Check.same("complaints", x.pass(hours), told[0]);
            Check.same("flushed", x.count(4) - flushed, told[1]);
            Check.same("brown", x.count(2), told[2]);
            Check.same("streets", x.count(6), told[3]);
        }
        HydrantRounds x = new HydrantRounds();
        x.dirt(0, 100);
        x.send(0, 0);
        x.send(0, 7);
        int[] due = {1, 60, 1, 2};
        int[] later = {1, 101, 0, 1};
        for (int what = 0; what < 4; what++) {
            Check.same("in an hour: " + what, due[what], x.ifPassed(1, what));
            Check.same("in two hours: " + what, later[what], x.ifPassed(2, what));
        }
        for (int wrong : new int[] {-1, 49, Integer.MIN_VALUE, Integer.MAX_VALUE}) {
            Check.refuses(x, "hours " + wrong, IllegalArgumentException.class, () -> x.ifPassed(wrong, 0));
            Check.refuses(x, "what " + wrong, IllegalArgumentException.class, () -> x.ifPassed(1, wrong));
        }
        Check.refuses(x, "hours 0", IllegalArgumentException.class, () -> x.ifPassed(0, 0));
        Check.refuses(x, "what 4", IllegalArgumentException.class, () -> x.ifPassed(1, 4));
    }

    /** What bestStreet tells, by calls that change the object and are undone. */
    private static int bestByTrying(HydrantRounds x) {
        int best = -1;
        int fewest = Integer.MAX_VALUE;
        for (int street = 0; street < 12; street++) {
            x.clearBuffer();
            Check.type(x, "a" + street + ";b0;c0");
            x.rounds();
            x.skip(1);
            x.skip(2);
            int complaints = x.pass(12);
            for (int call = 0; call < 4; call++) {
                x.undo();
            }
            if (complaints < fewest) {
                fewest = complaints;
                best = street;
            }
        }
        return best;
    }

    /** Promise 21. */
    private static void bestStreet() {
        HydrantRounds x = new HydrantRounds();
        Check.same("of several the lowest", 0, x.bestStreet());
        for (int street = 0; street < 12; street++) {
            HydrantRounds y = new HydrantRounds();
            y.set(3, 0);
            y.dirt(street, 25);
            Check.same("the only brown one", street, y.bestStreet());
            y.pressure(street / 4, 5);
            Check.same("it cannot be flushed", 0, y.bestStreet());
        }
        HydrantRounds busy = busy();
        long before = busy.digest();
        int told = busy.bestStreet();
        Check.same("bestStreet changes nothing", before, busy.digest());
        Check.same("bestStreet", bestByTrying(busy), told);
        for (int dirt = 20; dirt < 999; dirt += 61) {
            HydrantRounds y = new HydrantRounds();
            y.dirt(5, dirt);
            y.dirt(8, 300);
            y.dirt(9, 30);
            y.dirt(11, 120);
            y.pass(1);
            Check.same("bestStreet with " + dirt, bestByTrying(y), y.bestStreet());
        }
        bestStreetLooksTwelveHoursAhead();
    }

    /**
     * Street 11 gets 1 dirt an hour, and from the eleventh hour on 1 more from street 10: 7 and more are brown in 12
     * hours, 6 are not (in 11 hours it would be 9, in 13 hours 5).
     */
    private static void bestStreetLooksTwelveHoursAhead() {
        for (int dirt = 0; dirt <= 20; dirt++) {
            HydrantRounds y = new HydrantRounds();
            y.dirt(11, dirt);
            Check.same("brown in 12 hours", dirt >= 7 ? 1 : 0, y.ifPassed(12, 2));
            Check.same("bestStreet with " + dirt + " in 11", dirt >= 7 ? 11 : 0, y.bestStreet());
        }
    }

    private static void bestStreetPlaysOneCrew() {
        HydrantRounds x = new HydrantRounds();
        x.set(3, 0);
        x.dirt(11, 100);
        x.dirt(6, 100);
        int alone = x.bestStreet();
        Check.same("alone", 6, alone);
        Check.type(x, "a11,11;b11;c6");
        x.rounds();
        Check.same("the crews' own rounds do not count", alone, x.bestStreet());
    }

    /** Promise 22. */
    private static void clearIn() {
        HydrantRounds x = new HydrantRounds();
        Check.same("clear at once", 0, x.clearIn());
        x.dirt(11, 21);
        Check.same("nobody flushes", -1, x.clearIn());
        x.send(2, 11);
        Check.same("in an hour", 1, x.clearIn());
        x.dirt(11, 21 + 54);
        Check.same("in two hours", 2, x.clearIn());
        HydrantRounds y = new HydrantRounds();
        y.set(0, 99);
        y.set(3, 0);
        y.set(1, 0);
        y.set(2, 1);
        y.pressure(2, 14);
        y.dirt(11, 300);
        y.send(0, 11);
        Check.same("1 an hour, 201 hours", -1, y.clearIn());
        y.dirt(11, 299);
        Check.same("1 an hour, 200 hours", 200, y.clearIn());
        y.dirt(11, 298);
        Check.same("1 an hour, 199 hours", 199, y.clearIn());
        long before = y.digest();
        y.clearIn();
        Check.same("clearIn changes nothing", before, y.digest());
        y.dirt(0, 999);
        int gone = y.clearIn();
        Check.same("carried until clean, or never", -1, gone);
        HydrantRounds busy = busy();
        int told = busy.clearIn();
        Check.isTrue("hours until it is clear", told != 0);
        int hours = 0;
        while (hours <= 200 && busy.count(2) > 0) {
            busy.pass(1);
            hours++;
        }
        Check.same("clearIn by passing", hours <= 200 ? hours : -1, told);
    }

    /** Promise 23. */
    private static void leastPressure() {
        HydrantRounds x = new HydrantRounds();
        for (int street = 0; street < 12; street++) {
            Check.same("leastPressure(" + street + ")", 25 + street % 4, x.leastPressure(street));
        }
        x.hydrant(7, 30);
        x.set(1, 60);
        Check.same("the most", 93, x.leastPressure(7));
        x.set(1, 1);
        Check.same("1 + 3 + 30", 34, x.leastPressure(7));
        x.set(1, 0);
        Check.same("it is never below 0", 0, x.leastPressure(7));
        x.set(1, 15);
        x.pressure(1, 0);
        Check.same("whatever the zone has", 48, x.leastPressure(7));
        x.pressure(1, 99);
        Check.same("whatever the zone has", 48, x.leastPressure(7));
        x.send(0, 6);
        x.waits(0);
        Check.same("its hydrant alone is open", 48, x.leastPressure(7));
        long before = x.digest();
        x.leastPressure(7);
        Check.same("leastPressure changes nothing", before, x.digest());
        for (int street : new int[] {-1, 12, Integer.MIN_VALUE, Integer.MAX_VALUE}) {
            Check.refuses(x, "leastPressure", IndexOutOfBoundsException.class, () -> x.leastPressure(street));
        }
    }

    private static void leastPressureBehindValves() {
        HydrantRounds x = new HydrantRounds();
        x.valve(0, true);
        Check.same("enough ahead", 25, x.leastPressure(4));
        x.pressure(0, 18);
        Check.same("just enough ahead", 25, x.leastPressure(4));
        x.pressure(0, 17);
        Check.same("too little ahead", -1, x.leastPressure(4));
        Check.same("too little ahead of 7", -1, x.leastPressure(7));
        Check.same("zone 0 itself", 25, x.leastPressure(0));
        Check.same("zone 2 has a shut valve", 25, x.leastPressure(8));
        x.valve(1, true);
        Check.same("too little two zones ahead", -1, x.leastPressure(8));
        x.valve(0, false);
        Check.same("the zone ahead has enough", 25, x.leastPressure(8));
        x.valve(0, true);
        x.pressure(0, 27);
        x.send(0, 0);
        Check.same("crew 0 would work", 0, x.waits(0));
        Check.same("but no hydrant is open ahead", 25, x.leastPressure(4));
        x.pressure(0, 0);
        x.set(1, 0);
        Check.same("no pressure is needed", 0, x.leastPressure(8));
    }

    /** Promise 24. */
    private static void cleanShare() {
        HydrantRounds x = new HydrantRounds();
        for (int brown = 0; brown <= 12; brown++) {
            Check.same("cleanShare with " + brown, (12 - brown) / 12.0, x.cleanShare());
            if (brown < 12) {
                x.dirt(brown, 20);
                Check.same("20 is clean", (12 - brown) / 12.0, x.cleanShare());
                x.dirt(brown, 21);
            }
        }
        x.set(0, 21);
        Check.same("by the setting", 1.0, x.cleanShare());
    }

    /** Promise 25. */
    private static void digest() {
        HydrantRounds x = new HydrantRounds();
        Check.same("digest of a new one", Hash.of(x, "", new int[] {40, 40, 40, 0, 0}, new boolean[12]), x.digest());
        for (int brown = 0; brown < 12; brown++) {
            x.dirt(brown, 500);
            long due = Hash.of(x, "", new int[] {40, 40, 40, 0, 0}, new boolean[12]);
            Check.same("digest with " + brown, due, x.digest());
        }
        x.pass(2);
        x.dirt(2, 0);
        x.pressure(0, 31);
        x.pressure(2, 99);
        x.valve(1, true);
        x.send(0, 4);
        x.send(0, 5);
        x.send(2, 5);
        Check.type(x, "a1~!");
        boolean[] wasBrown = new boolean[12];
        java.util.Arrays.fill(wasBrown, true);
        Check.same("digest", Hash.of(x, "a1~!", new int[] {31, 40, 99, 0, 1}, wasBrown), x.digest());
        Check.same("digest changes nothing", x.digest(), x.digest());
        x.clearBuffer();
        Check.same("digest", Hash.of(x, "", new int[] {31, 40, 99, 0, 1}, wasBrown), x.digest());
    }
}
