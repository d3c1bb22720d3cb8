import java.util.Arrays;

/** What would be: promises 20 to 25. */
final class WouldBeEdges {
    private static final int[] FIRST_ZONES = {40, 40, 40, 0, 0};
    private static final boolean[] NOT_BROWN = new boolean[12];

    private WouldBeEdges() {
    }

    static void all() {
        ifPassed();
        ifPassedAtItsEnds();
        bestStreet();
        bestStreetAlone();
        clearIn();
        leastPressure();
        leastPressureAtItsEnds();
        cleanShare();
        digest();
        digestOfStreets();
        digestOfWhatWouldBe();
    }

    private static void ifPassed() {
        Edge.promise(20, "Tells what hours would bring.", () -> {
            for (int hours : new int[] {1, 2, 47, 48}) {
                HydrantRounds x = Sample.busy();
                int flushed = x.count(4);
                int[] told = new int[4];
                for (int what = 0; what < 4; what++) {
                    told[what] = x.ifPassed(hours, what);
                }
                Check.same("hours that have gone", 2, x.count(0));
                Check.same("complaints", x.pass(hours), told[0]);
                Check.same("flushed", x.count(4) - flushed, told[1]);
                Check.same("brown", x.count(2), told[2]);
                Check.same("in rounds", x.count(6), told[3]);
            }
        });
        Edge.promise(20, "0: complaints", () -> {
            HydrantRounds x = Sample.still();
            x.dirt(3, 999);
            Check.same("1 hour", 1, x.ifPassed(1, 0));
            Check.same("48 hours", 95, x.ifPassed(48, 0));
            x.pass(1);
            Check.same("1 hour more", 2, x.ifPassed(1, 0));
        });
        Edge.promise(20, "1: dirt that would be flushed out", () -> {
            HydrantRounds x = Sample.still();
            x.dirt(0, 999);
            x.send(0, 0);
            Check.same("1 hour", 60, x.ifPassed(1, 1));
            x.pass(1);
            Check.same("1 hour more, without the one before", 60, x.ifPassed(1, 1));
            Check.same("48 hours", 939, x.ifPassed(48, 1));
        });
        Edge.promise(20, "2: brown streets then", () -> {
            HydrantRounds x = new HydrantRounds();
            x.dirt(3, 19);
            x.dirt(7, 20);
            Check.same("21", 1, x.ifPassed(1, 2));
            Check.same("22 and 21", 2, x.ifPassed(2, 2));
            Check.same("none is brown now", 0, x.count(2));
            x.set(3, 20);
            Check.same("all", 12, x.ifPassed(48, 2));
        });
        Edge.promise(20, "3: streets in all rounds then", () -> {
            HydrantRounds x = new HydrantRounds();
            Sample.give(x, "a0,0,0,0,0,0,0,0;b4,5;c8");
            Check.same("1 hour", 8, x.ifPassed(1, 3));
            Check.same("2 hours", 6, x.ifPassed(2, 3));
            Check.same("48 hours", 0, x.ifPassed(48, 3));
            Check.same("now", 11, x.count(6));
        });
    }

    private static void ifPassedAtItsEnds() {
        Edge.allows(20, "`hours`: 1 to 48", (x, hours) -> x.ifPassed(hours, 0), 1, 48);
        Edge.allows(20, "`what`: 0: complaints", (x, what) -> x.ifPassed(1, what), 0, 3);
        Edge.promise(20, "Returns the number.", () -> {
            HydrantRounds x = new HydrantRounds();
            for (int what = 0; what < 4; what++) {
                Check.same("of a new object: " + what, 0, x.ifPassed(1, what));
            }
        });
        Edge.refuses(20, "Throws `IllegalArgumentException` if hours or what is out of range", Edge.ARGUMENT,
            (x, hours) -> x.ifPassed(hours, 3), Edge.beside(1, 48));
        Edge.refuses(20, "Throws `IllegalArgumentException` if hours or what is out of range", Edge.ARGUMENT,
            (x, what) -> x.ifPassed(48, what), Edge.beside(0, 3));
    }

    private static void bestStreet() {
        Edge.promise(21, "Finds the street that had best be flushed.", () -> {
            for (int street = 0; street < 12; street++) {
                HydrantRounds x = Sample.still();
                x.dirt(street, 30);
                Check.same("the only brown one", street, x.bestStreet());
            }
        });
        Edge.promise(21, "of several the lowest", () -> {
            Check.same("all are alike", 0, new HydrantRounds().bestStreet());
            HydrantRounds x = Sample.still();
            x.dirt(7, 30);
            x.dirt(11, 30);
            Check.same("two are alike", 7, x.bestStreet());
            x.dirt(3, 30);
            Check.same("three are alike", 3, x.bestStreet());
            x.pressure(0, 0);
            x.pressure(1, 0);
            x.pressure(2, 0);
            Check.same("none can be flushed", 0, x.bestStreet());
        });
        Edge.promise(21, "there would be fewest complaints in 12 hours", () -> {
            HydrantRounds x = new HydrantRounds();
            x.dirt(11, 6);
            Check.same("6 and 14 more are not brown in 12 hours", 0, x.bestStreet());
            x.dirt(11, 7);
            Check.same("7 and 14 more are", 11, x.bestStreet());
            HydrantRounds y = Sample.still();
            y.dirt(3, 999);
            y.dirt(7, 100);
            Check.same("3 stays brown for 12 hours, 7 is clean in two", 7, y.bestStreet());
            HydrantRounds z = Sample.still();
            z.dirt(11, 30);
            z.pass(1);
            z.dirt(7, 30);
            Check.same("11 was brown, and has one complaint more than 7", 11, z.bestStreet());
        });
    }

    private static void bestStreetAlone() {
        Edge.promise(21, "alone in the round of the crew 0", () -> {
            HydrantRounds x = Sample.still();
            x.dirt(7, 30);
            x.dirt(11, 30);
            Sample.give(x, "a11,11,11,11,11,11,11,11");
            Check.same("a full round of crew 0 does not count", 7, x.bestStreet());
            Check.same("and it stays", 8, x.count(6));
            x.dirt(7, 90);
            Sample.give(x, "a11");
            Check.same("11 would be clean in an hour, 7 in two", 11, x.bestStreet());
        });
        Edge.promise(21, "and both other crews without rounds", () -> {
            for (int crew = 1; crew < 3; crew++) {
                HydrantRounds x = Sample.still();
                x.dirt(7, 30);
                x.dirt(11, 30);
                Sample.give(x, (char) ('a' + crew) + "7");
                Check.same("crew " + crew + " would flush 7", 7, x.bestStreet());
                Check.same("its round stays", 7, x.round(crew, 0));
            }
        });
    }

    private static void clearIn() {
        Edge.promise(22, "Tells when nobody complains.", () -> {
            HydrantRounds x = Sample.still();
            x.dirt(0, 200);
            x.send(2, 0);
            int told = x.clearIn();
            Check.same("200 - 3 times 60", 3, told);
            x.pass(told - 1);
            Check.same("an hour ahead", 1, x.count(2));
            Check.same("the rest of them", 1, x.clearIn());
            x.pass(1);
            Check.same("then", 0, x.count(2));
        });
        Edge.promise(22, "Returns behind how many hours, 0 to 200, no street would be brown", () -> {
            HydrantRounds x = oneAnHour();
            x.dirt(11, 299);
            Check.same("200 hours", 200, x.clearIn());
            x.dirt(11, 298);
            Check.same("199 hours", 199, x.clearIn());
            x.dirt(11, 100);
            Check.same("1 hour", 1, x.clearIn());
            x.dirt(11, 99);
            Check.same("at once", 0, x.clearIn());
            HydrantRounds y = new HydrantRounds();
            y.set(3, 20);
            y.dirt(11, 20);
            Check.same("at once, though not for long", 0, y.clearIn());
        });
        Edge.promise(22, "NONE if not by 200", () -> {
            HydrantRounds x = oneAnHour();
            x.dirt(11, 300);
            Check.same("201 hours", Edge.NONE, x.clearIn());
            x.pass(1);
            Check.same("200 hours then", 200, x.clearIn());
            x.skip(0);
            Check.same("nobody flushes", Edge.NONE, x.clearIn());
        });
    }

    /** Street 11 is flushed by 1 an hour, and not brown with 99. */
    private static HydrantRounds oneAnHour() {
        HydrantRounds x = Sample.still();
        x.set(0, 99);
        x.set(1, 0);
        x.set(2, 1);
        x.pressure(2, 14);
        x.send(0, 11);
        return x;
    }

    private static void leastPressure() {
        Edge.promise(23, "Finds the least pressure of a zone.", () -> {
            for (int street = 0; street < 12; street++) {
                HydrantRounds x = new HydrantRounds();
                x.hydrant(street, 1 + 2 * street);
                x.send(0, street);
                int least = x.leastPressure(street);
                x.pressure(street / 4, least);
                Check.same("with it a crew can work on " + street, 0, x.waits(0));
                x.pressure(street / 4, least - 1);
                Check.same("with less it cannot", 2, x.waits(0));
                Check.same("the zone's own does not count", least, x.leastPressure(street));
            }
        });
        Edge.promise(23, "with which the pressure at the street would be at least setting 1", () -> {
            HydrantRounds x = new HydrantRounds();
            int[] needed = {1, 2, 15, 60};
            for (int least : needed) {
                x.set(1, least);
                Check.same("first street, setting 1 is " + least, least + 10, x.leastPressure(4));
                Check.same("last street, setting 1 is " + least, least + 13, x.leastPressure(7));
            }
        });
        Edge.promise(23, "with its hydrant alone open", () -> {
            HydrantRounds x = new HydrantRounds();
            x.hydrant(8, 30);
            x.dirt(8, 999);
            x.dirt(9, 999);
            Sample.give(x, "a8;b9;c10");
            x.pass(1);
            Check.same("its own", 15 + 30, x.leastPressure(8));
            Check.same("another one", 15 + 2 + 10, x.leastPressure(10));
            x.valve(0, true);
            x.pressure(0, 27);
            Sample.give(x, "a0");
            Check.same("crew 0 would work on 0", 0, x.waits(0));
            Check.same("15 ahead, if 0 is shut", 15 + 10, x.leastPressure(4));
        });
        Edge.promise(23, "NONE if there is none", () -> {
            HydrantRounds x = new HydrantRounds();
            x.valve(0, true);
            x.pressure(0, 18);
            Check.same("15 ahead", 15 + 10, x.leastPressure(4));
            x.pressure(0, 17);
            Check.same("14 ahead", Edge.NONE, x.leastPressure(4));
            Check.same("14 ahead of the last one", Edge.NONE, x.leastPressure(7));
            Check.same("the zone ahead itself", 15 + 10, x.leastPressure(0));
            x.valve(1, true);
            Check.same("14 two zones ahead", Edge.NONE, x.leastPressure(8));
            x.valve(0, false);
            Check.same("37 ahead", 15 + 10, x.leastPressure(8));
            x.set(1, 38);
            Check.same("38 are needed", Edge.NONE, x.leastPressure(8));
        });
    }

    private static void leastPressureAtItsEnds() {
        Edge.promise(23, "Returns the least pressure of its zone, 0 to 99", () -> {
            HydrantRounds x = new HydrantRounds();
            x.set(1, 0);
            x.hydrant(3, 30);
            Check.same("0 is not below 0", 0, x.leastPressure(3));
            x.valve(0, true);
            x.pressure(0, 0);
            Check.same("nor behind a valve", 0, x.leastPressure(4));
            x.set(1, 60);
            Check.same("the most: 60 + 3 + 30", 93, x.leastPressure(3));
        });
        Edge.allows(23, "`street`: 0 to 11", (x, street) -> x.leastPressure(street), 0, 11);
        Edge.refuses(23, "Throws `IndexOutOfBoundsException` if there is no such street", Edge.INDEX,
            (x, street) -> x.leastPressure(street), Edge.beside(0, 11));
    }

    private static void cleanShare() {
        Edge.promise(24, "Returns how many streets are clean.", () -> {
            HydrantRounds x = new HydrantRounds();
            Check.same("all", 1.0, x.cleanShare());
            for (int street = 0; street < 12; street++) {
                x.dirt(street, 999);
            }
            Check.same("none", 0.0, x.cleanShare());
        });
        Edge.promise(24, "Returns the streets that are not brown, as a double, divided by 12.", () -> {
            double[] due = {1.0, 11.0 / 12.0, 10.0 / 12.0, 0.75, 8.0 / 12.0, 7.0 / 12.0, 0.5, 5.0 / 12.0, 4.0 / 12.0, 0.25,
                2.0 / 12.0, 1.0 / 12.0, 0.0};
            HydrantRounds x = new HydrantRounds();
            for (int brown = 0; brown < 12; brown++) {
                x.dirt(brown, 20);
                Check.same("20 is not brown", due[brown], x.cleanShare());
                x.dirt(brown, 21);
                Check.same("21 is", due[brown + 1], x.cleanShare());
            }
        });
    }

    private static void isDigest(String what, HydrantRounds x, String buffer, int[] zones, boolean[] wasBrown) {
        Check.same(what, Hash.of(x, buffer, zones, wasBrown), x.digest());
    }

    private static void digest() {
        Edge.promise(25, "Computes a hash of the whole state.", () -> {
            HydrantRounds x = Sample.busy();
            long first = x.digest();
            Check.same("the same state", first, Sample.busy().digest());
            x.append('!');
            Check.isTrue("the buffer does not count", first != x.digest());
        });
        Edge.promise(25,
            "The hash starts at 3169.", () -> isDigest("new", new HydrantRounds(), "", FIRST_ZONES, NOT_BROWN));
        Edge.promise(25,
            "For each value v of the following list, in order, the hash becomes 31 * hash + v, in long arithmetic "
            + "with overflow.", () -> Check.same("with a~ in the buffer", -2911597604484626923L, Sample.typed("a~").digest()));
        Edge.promise(25,
            "Returns the hash.", () -> Check.same("new", -1442682001178669098L, new HydrantRounds().digest()));
        Edge.promise(25, "count(0) to count(8)", () -> {
            HydrantRounds x = new HydrantRounds();
            x.dirt(3, 999);
            x.set(3, 20);
            Sample.give(x, "a0;b0;c0,1");
            x.pass(1);
            boolean[] wasBrown = new boolean[12];
            wasBrown[3] = true;
            isDigest("behind an hour", x, "", FIRST_ZONES, wasBrown);
            x.undo();
            isDigest("behind undo", x, "", FIRST_ZONES, NOT_BROWN);
        });
        Edge.promise(25, "the settings 0 to 3", () -> {
            HydrantRounds x = new HydrantRounds();
            int[][] given = {{0, 0, 1, 0}, {99, 60, 9, 20}};
            for (int[] values : given) {
                for (int setting = 0; setting < 4; setting++) {
                    x.set(setting, values[setting]);
                    isDigest("set(" + setting + ", " + values[setting] + ")", x, "", FIRST_ZONES, NOT_BROWN);
                }
            }
        });
        Edge.promise(25, "the pressures of the zones, and for each valve 1 if it is open, otherwise 0", () -> {
            HydrantRounds x = new HydrantRounds();
            x.pressure(0, 0);
            x.pressure(1, 99);
            x.pressure(2, 7);
            isDigest("shut", x, "", new int[] {0, 99, 7, 0, 0}, NOT_BROWN);
            x.valve(1, true);
            isDigest("valve 1", x, "", new int[] {0, 99, 7, 0, 1}, NOT_BROWN);
            x.valve(0, true);
            isDigest("both", x, "", new int[] {0, 99, 7, 1, 1}, NOT_BROWN);
            x.valve(1, false);
            isDigest("valve 0", x, "", new int[] {0, 99, 7, 1, 0}, NOT_BROWN);
        });
    }

    private static void digestOfStreets() {
        Edge.promise(25,
            "for each street its numbers 0 to 7, 1 if it was brown behind the last hour, otherwise 0, and leastPressure",
            () -> {
                HydrantRounds x = Sample.still();
                boolean[] wasBrown = new boolean[12];
                for (int street = 3; street < 12; street += 4) {
                    x.dirt(street, 999);
                    isDigest("not brown behind an hour", x, "", FIRST_ZONES, NOT_BROWN);
                }
                x.pass(1);
                for (int street = 3; street < 12; street += 4) {
                    wasBrown[street] = true;
                }
                isDigest("brown behind an hour", x, "", FIRST_ZONES, wasBrown);
                x.dirt(7, 0);
                isDigest("still", x, "", FIRST_ZONES, wasBrown);
                x.pass(1);
                wasBrown[7] = false;
                isDigest("not any more", x, "", FIRST_ZONES, wasBrown);
                x.hydrant(11, 30);
                isDigest("leastPressure", x, "", FIRST_ZONES, wasBrown);
            });
        Edge.promise(25, "for each crew waits, and the streets of its round", () -> {
            HydrantRounds x = new HydrantRounds();
            Sample.give(x, "a0,1,2,3,4,5,6,7;c0");
            isDigest("full, empty, and one that waits", x, "", FIRST_ZONES, NOT_BROWN);
            Sample.give(x, "a11;b11,10,9,8,7,6,5,4");
            isDigest("the other way round", x, "", FIRST_ZONES, NOT_BROWN);
        });
        Edge.promise(25, "the length of the buffer and each of its character codes", () -> {
            for (String text : new String[] {"", "!", "~", "a0", "0a", "a10,11;~"}) {
                isDigest("buffer " + text, Sample.typed(text), text, FIRST_ZONES, NOT_BROWN);
            }
            String full = "!".repeat(59) + "~";
            HydrantRounds x = Sample.typed(full);
            isDigest("a full buffer", x, full, FIRST_ZONES, NOT_BROWN);
            x.clearBuffer();
            isDigest("a buffer that was full", x, "", FIRST_ZONES, NOT_BROWN);
        });
    }

    private static void digestOfWhatWouldBe() {
        Edge.promise(25, "ifPassed of 6 with 0 to 3", () -> {
            HydrantRounds x = new HydrantRounds();
            x.dirt(11, 400);
            Sample.give(x, "c11,10,9");
            isDigest("busy", x, "", FIRST_ZONES, NOT_BROWN);
        });
        Edge.promise(25, "bestStreet", () -> {
            HydrantRounds x = Sample.still();
            x.dirt(11, 30);
            Check.same("bestStreet", 11, x.bestStreet());
            isDigest("the last one", x, "", FIRST_ZONES, NOT_BROWN);
        });
        Edge.promise(25, "clearIn", () -> {
            HydrantRounds x = oneAnHour();
            int[] zones = {40, 40, 14, 0, 0};
            for (int dirt : new int[] {99, 299, 300}) {
                x.dirt(11, dirt);
                isDigest("at once, in 200 hours, never: " + dirt, x, "", zones, NOT_BROWN);
            }
        });
        Edge.promise(25, "the bits of cleanShare (as Double.doubleToLongBits)", () -> {
            HydrantRounds x = new HydrantRounds();
            for (int street = 0; street < 12; street++) {
                x.dirt(street, 999);
                isDigest("brown streets: " + (street + 1), x, "", FIRST_ZONES, NOT_BROWN);
            }
        });
    }
}
