/** Zones, streets and their pressure, and promises 1 to 5. */
final class ZoneEdges {
    private static final int[] ENDS = {0, 11};

    private ZoneEdges() {
    }

    static void all() {
        zones();
        streets();
        valves();
        brown();
        pressureAt();
        pressureBehindValves();
        newObject();
        pressure();
        valve();
        dirt();
        hydrant();
    }

    private static void zones() {
        Edge.term("Terms", 2, "There are 3 zones, numbered from 0", () -> {
            HydrantRounds x = new HydrantRounds();
            for (int zone = 0; zone < 3; zone++) {
                x.pressure(zone, 50 + zone);
                Check.same("pressure at the first street of zone " + zone, 50 + zone, x.street(4 * zone, 3));
            }
            Check.refusesEach(x, "zone", Edge.INDEX, (y, zone) -> y.pressure(zone, 40), -1, 3);
        });
        Edge.term("Terms", 2, "each with a pressure, 0 to 99", () -> {
            for (int i = 0; i < 3; i++) {
                HydrantRounds x = new HydrantRounds();
                int zone = i;
                x.pressure(zone, 99);
                Check.same("the most", 99, x.street(4 * zone, 3));
                x.pressure(zone, 0);
                Check.same("the least", 0, x.street(4 * zone, 3));
                Check.refusesEach(x, "pressure", Edge.ARGUMENT, (y, pressure) -> y.pressure(zone, pressure), -1, 100);
            }
        });
        Edge.term("Terms", 2, "at first 40", () -> {
            for (int zone = 0; zone < 3; zone++) {
                Check.same("zone " + zone, 40, new HydrantRounds().pressure(zone, 7));
            }
        });
    }

    private static void streets() {
        Edge.term("Terms", 4, "There are 12 streets, numbered from 0", () -> {
            HydrantRounds x = new HydrantRounds();
            for (int street : ENDS) {
                x.dirt(street, 30 + street);
                Check.same("dirt of " + street, 30 + street, x.street(street, 0));
            }
            Check.refusesEach(x, "street", Edge.INDEX, (y, street) -> y.dirt(street, 5), -1, 12);
        });
        Edge.term("Terms", 15, "the street s is in the zone s / 4", () -> {
            for (int zone = 0; zone < 3; zone++) {
                HydrantRounds x = new HydrantRounds();
                x.pressure(zone, 80);
                for (int street = 0; street < 12; street++) {
                    boolean isInIt = street >= 4 * zone && street < 4 * zone + 4;
                    Check.isTrue("street " + street + " and zone " + zone, isInIt == x.street(street, 3) > 40);
                }
            }
        });
        Edge.term("Terms", 15,
            "its water comes from the street s - 1, if that is in the same zone, and otherwise from the works",
            () -> {
                int[] due = {-1, 0, 1, 2, -1, 4, 5, 6, -1, 8, 9, 10};
                for (int street = 0; street < 12; street++) {
                    Check.same("water of " + street, due[street], new HydrantRounds().street(street, 4));
                }
            });
        Edge.term("Terms", 4, "A street has dirt, 0 to 999, at first 0", () -> {
            for (int street = 0; street < 12; street++) {
                HydrantRounds x = new HydrantRounds();
                Check.same("at first", 0, x.dirt(street, 999));
                Check.same("the most", 999, x.dirt(street, 0));
                Check.same("the least", 0, x.street(street, 0));
            }
            for (int street : ENDS) {
                HydrantRounds x = new HydrantRounds();
                Check.refusesEach(x, "dirt", Edge.ARGUMENT, (y, dirt) -> y.dirt(street, dirt), -1, 1000);
            }
        });
        Edge.term("Terms", 5, "a hydrant that takes 1 to 30 of the pressure, at first 10", () -> {
            for (int street = 0; street < 12; street++) {
                HydrantRounds x = new HydrantRounds();
                Check.same("at first", 10, x.hydrant(street, 30));
                Check.same("the most", 30, x.hydrant(street, 1));
                Check.same("the least", 1, x.street(street, 1));
            }
            for (int street : ENDS) {
                HydrantRounds x = new HydrantRounds();
                Check.refusesEach(x, "takes", Edge.ARGUMENT, (y, takes) -> y.hydrant(street, takes), 0, 31);
            }
        });
    }

    private static void valves() {
        Edge.term("Terms", 3, "A valve between two zones z and z + 1 (z is 0 or 1) can be open", () -> {
            HydrantRounds x = new HydrantRounds();
            for (int zone = 0; zone < 2; zone++) {
                x.valve(zone, true);
                Check.same("valve " + zone + " is open", 1, x.valve(zone, true));
            }
            Check.refusesEach(x, "valve", Edge.INDEX, (y, zone) -> y.valve(zone, true), -1, 2);
        });
        Edge.term("Terms", 3, "at first it is shut", () -> {
            for (int zone = 0; zone < 2; zone++) {
                Check.same("valve " + zone, 0, new HydrantRounds().valve(zone, true));
            }
        });
        Edge.term("Terms", 3,
            "then the first street of the zone z + 1 gets its water from the last street of the zone z", () -> {
            for (int zone = 0; zone < 2; zone++) {
                HydrantRounds x = new HydrantRounds();
                x.valve(zone, true);
                Check.same("street 4", zone == 0 ? 3 : -1, x.street(4, 4));
                Check.same("street 8", zone == 1 ? 7 : -1, x.street(8, 4));
                Check.same("street 0 has its water from the works", -1, x.street(0, 4));
                Check.same("the second street", 4 * zone + 4, x.street(4 * zone + 5, 4));
                x.valve(zone, false);
                Check.same("shut again", -1, x.street(4 * zone + 4, 4));
            }
        });
    }

    private static void brown() {
        Edge.term("Terms", 15, "is brown or not: it is brown if its dirt is above setting 0", () -> {
            for (int limit : new int[] {0, 20, 99}) {
                for (int street : ENDS) {
                    HydrantRounds x = new HydrantRounds();
                    x.set(0, limit);
                    x.dirt(street, limit);
                    Check.same("as much as setting 0, " + limit, 0, x.street(street, 2));
                    x.dirt(street, limit + 1);
                    Check.same("one more than setting 0, " + limit, 1, x.street(street, 2));
                }
            }
            HydrantRounds x = new HydrantRounds();
            x.dirt(6, 999);
            Check.same("the most dirt", 1, x.street(6, 2));
        });
    }

    private static void pressureAt() {
        Edge.term("Terms", 15,
            "The pressure at a street is that of its zone, less 1 for each street ahead of it in the zone", () -> {
            for (int street = 0; street < 12; street++) {
                HydrantRounds x = new HydrantRounds();
                x.pressure(street / 4, 99);
                Check.same("pressure at " + street, 99 - street % 4, x.street(street, 3));
            }
        });
        Edge.term("Terms", 9, "and less what the hydrants take that are open in its zone", () -> {
            HydrantRounds x = new HydrantRounds();
            x.pressure(1, 60);
            for (int street : new int[] {4, 7, 8}) {
                x.dirt(street, 999);
            }
            x.hydrant(4, 3);
            x.hydrant(7, 5);
            x.hydrant(8, 30);
            x.hydrant(5, 29);
            Sample.give(x, "a7;b4;c8");
            x.set(1, 10);
            x.pass(1);
            Check.same("its own and one farther on: 60 - 8, times 2", 104, x.street(4, 6));
            Check.same("its own and one ahead: 60 - 3 - 8, times 2", 98, x.street(7, 6));
            Check.same("its own alone in its zone: 40 - 30, times 2", 20, x.street(8, 6));
        });
        Edge.term("Terms", 15, "It is never below 0", () -> {
            for (int street : new int[] {3, 7, 11}) {
                HydrantRounds x = new HydrantRounds();
                x.pressure(street / 4, 3);
                Check.same("3 - 3", 0, x.street(street, 3));
                x.pressure(street / 4, 2);
                Check.same("2 - 3", 0, x.street(street, 3));
                x.pressure(street / 4, 0);
                Check.same("0 - 3", 0, x.street(street, 3));
            }
            HydrantRounds x = new HydrantRounds();
            x.pressure(0, 2);
            x.valve(0, true);
            Check.same("behind an open valve", 0, x.street(4, 3));
            HydrantRounds y = Sample.still();
            y.set(1, 0);
            y.pressure(0, 9);
            y.dirt(0, 50);
            y.send(0, 0);
            y.pass(1);
            Check.same("9 - 10 flushes nothing, and brings nothing", 50, y.street(0, 0));
            Check.same("flushed", 0, y.street(0, 6));
        });
    }

    private static void pressureBehindValves() {
        String sentence = "with an open valve ahead of its zone it is that, or the pressure at the last street of the zone "
            + "ahead, whichever is lower";
        Edge.term("Terms", 15, sentence, () -> {
            HydrantRounds x = new HydrantRounds();
            x.valve(0, true);
            int[] ahead = {0, 3, 42, 43, 44, 99};
            int[] first = {0, 0, 39, 40, 40, 40};
            int[] last = {0, 0, 37, 37, 37, 37};
            for (int i = 0; i < ahead.length; i++) {
                x.pressure(0, ahead[i]);
                Check.same("at 4 behind " + ahead[i], first[i], x.street(4, 3));
                Check.same("at 7 behind " + ahead[i], last[i], x.street(7, 3));
            }
            x.pressure(0, 10);
            Check.same("street 3", 7, x.street(3, 3));
            Check.same("not less by the streets ahead in its own zone", 7, x.street(7, 3));
            Check.same("zone 2 behind a shut valve", 40, x.street(8, 3));
            x.valve(1, true);
            Check.same("zone 2 behind both valves", 7, x.street(8, 3));
            x.valve(0, false);
            Check.same("zone 2 behind valve 1 alone", 37, x.street(8, 3));
            x.valve(1, false);
            Check.same("zone 2 behind none", 40, x.street(8, 3));
        });
        Edge.term("Terms", 9, sentence, () -> {
            HydrantRounds x = new HydrantRounds();
            x.valve(0, true);
            x.valve(1, true);
            x.dirt(8, 999);
            x.dirt(0, 1);
            Sample.give(x, "a8;b0");
            x.pass(1);
            Check.same("with a hydrant open two zones ahead: 40 - 3 - 10, times 2", 54, x.street(8, 6));
        });
    }

    private static void newObject() {
        Edge.promise(1, "Creates clean streets", () -> {
            HydrantRounds x = new HydrantRounds();
            Check.same("brown streets", 0, x.count(2));
            Check.same("dirt", 0, x.count(1));
            Check.same("complaints", 0, x.count(3));
        });
        Edge.promise(1, "crews that rest", () -> {
            HydrantRounds x = new HydrantRounds();
            for (int crew = 0; crew < 3; crew++) {
                Check.same("crew " + crew, Edge.NONE, x.waits(crew));
                Check.same("round of " + crew, Edge.NONE, x.round(crew, 0));
            }
        });
        Edge.promise(1, "with an empty buffer", () -> Check.same("length", 0, new HydrantRounds().clearBuffer()));
        Edge.term("Exceptions", 1,
            "`NONE = -1`: There is nothing to return", () -> Check.same("NONE", -1, HydrantRounds.NONE));
    }

    private static void pressure() {
        Edge.promise(2, "Changes the pressure of a zone.", () -> {
            HydrantRounds x = new HydrantRounds();
            x.pressure(1, 77);
            Check.same("the zone", 77, x.street(4, 3));
            Check.same("the zone ahead", 40, x.street(0, 3));
            Check.same("the zone behind", 40, x.street(8, 3));
        });
        Edge.undoable(2, "Undoable.", (x, pressure) -> x.pressure(2, pressure), 0, 40, 99);
        Edge.allows(2, "`zone`: 0 to 2", (x, zone) -> x.pressure(zone, 50), 0, 2);
        Edge.allows(2, "`pressure`: 0 to 99", (x, pressure) -> x.pressure(0, pressure), 0, 99);
        Edge.promise(2, "Returns the previous pressure.", () -> {
            HydrantRounds x = new HydrantRounds();
            int[] given = {0, 99, 99, 5};
            int[] due = {40, 0, 99, 99};
            for (int i = 0; i < given.length; i++) {
                Check.same("pressure(2, " + given[i] + ")", due[i], x.pressure(2, given[i]));
            }
        });
        Edge.refuses(2, "Throws `IndexOutOfBoundsException` if there is no such zone", Edge.INDEX,
            (x, zone) -> x.pressure(zone, 50), Edge.beside(0, 2));
        Edge.refuses(2, "Throws `IllegalArgumentException` if pressure is out of range", Edge.ARGUMENT,
            (x, pressure) -> x.pressure(2, pressure), Edge.beside(0, 99));
    }

    private static void valve() {
        Edge.promise(3, "Opens or shuts the valve behind a zone.", () -> {
            HydrantRounds x = new HydrantRounds();
            x.valve(1, true);
            Check.same("behind zone 1", 7, x.street(8, 4));
            Check.same("behind zone 0", Edge.NONE, x.street(4, 4));
            x.valve(1, false);
            Check.same("shut", Edge.NONE, x.street(8, 4));
        });
        Edge.undoable(3, "Undoable.", (x, isOpen) -> x.valve(0, isOpen != 0), 0, 1);
        Edge.undoable(3, "Undoable.", (x, isOpen) -> x.valve(1, isOpen != 0), 0, 1);
        Edge.allows(3, "`zone`: 0 or 1", (x, zone) -> x.valve(zone, true), 0, 1);
        Edge.promise(3, "`isOpen`: whether it is open from now on", () -> {
            HydrantRounds x = new HydrantRounds();
            x.valve(0, true);
            x.pass(48);
            Check.same("open for good", 3, x.street(4, 4));
            x.valve(0, true);
            Check.same("opened again", 3, x.street(4, 4));
            x.valve(0, false);
            x.valve(0, false);
            Check.same("shut again", Edge.NONE, x.street(4, 4));
        });
        Edge.promise(3, "Returns 1 if it was open, otherwise 0.", () -> {
            for (int zone = 0; zone < 2; zone++) {
                HydrantRounds x = new HydrantRounds();
                Check.same("shut, is shut", 0, x.valve(zone, false));
                Check.same("shut, is opened", 0, x.valve(zone, true));
                Check.same("open, is opened", 1, x.valve(zone, true));
                Check.same("open, is shut", 1, x.valve(zone, false));
            }
        });
        Edge.refuses(3, "Throws `IndexOutOfBoundsException` if there is no such valve", Edge.INDEX,
            (x, zone) -> x.valve(zone, true), Edge.beside(0, 1));
    }

    private static void dirt() {
        Edge.promise(4, "Changes the dirt of a street.", () -> {
            for (int street : ENDS) {
                HydrantRounds x = new HydrantRounds();
                x.dirt(street, 123);
                Check.same("dirt of " + street, 123, x.street(street, 0));
                Check.same("dirt of all", 123, x.count(1));
            }
        });
        Edge.undoable(4, "Undoable.", (x, dirt) -> x.dirt(0, dirt), 0, 1, 999);
        Edge.allows(4, "`street`: 0 to 11", (x, street) -> x.dirt(street, 5), 0, 11);
        Edge.allows(4, "`dirt`: 0 to 999", (x, dirt) -> x.dirt(11, dirt), 0, 999);
        Edge.promise(4, "Returns the previous dirt.", () -> {
            HydrantRounds x = new HydrantRounds();
            int[] given = {999, 0, 0, 1, 7};
            int[] due = {0, 999, 0, 0, 1};
            for (int i = 0; i < given.length; i++) {
                Check.same("dirt(0, " + given[i] + ")", due[i], x.dirt(0, given[i]));
            }
        });
        Edge.refuses(4, "Throws `IndexOutOfBoundsException` if there is no such street", Edge.INDEX,
            (x, street) -> x.dirt(street, 5), Edge.beside(0, 11));
        Edge.refuses(4, "Throws `IllegalArgumentException` if dirt is out of range", Edge.ARGUMENT,
            (x, dirt) -> x.dirt(11, dirt), Edge.beside(0, 999));
    }

    private static void hydrant() {
        Edge.promise(5, "Changes how much of the pressure the hydrant of a street takes.", () -> {
            for (int street : ENDS) {
                HydrantRounds x = new HydrantRounds();
                x.dirt(street, 999);
                x.hydrant(street, 17);
                Check.same("takes", 17, x.street(street, 1));
                Check.same("another one", 10, x.street(6, 1));
                x.send(0, street);
                x.pass(1);
                Check.same("flushed", (40 - street % 4 - 17) * 2, x.street(street, 6));
            }
        });
        Edge.undoable(5, "Undoable.", (x, takes) -> x.hydrant(11, takes), 1, 10, 30);
        Edge.allows(5, "`street`: 0 to 11", (x, street) -> x.hydrant(street, 5), 0, 11);
        Edge.allows(5, "`takes`: 1 to 30", (x, takes) -> x.hydrant(0, takes), 1, 30);
        Edge.promise(5, "Returns what it took.", () -> {
            HydrantRounds x = new HydrantRounds();
            int[] given = {30, 1, 1, 12};
            int[] due = {10, 30, 1, 1};
            for (int i = 0; i < given.length; i++) {
                Check.same("hydrant(11, " + given[i] + ")", due[i], x.hydrant(11, given[i]));
            }
        });
        Edge.refuses(5, "Throws `IndexOutOfBoundsException` if there is no such street", Edge.INDEX,
            (x, street) -> x.hydrant(street, 5), Edge.beside(0, 11));
        Edge.refuses(5, "Throws `IllegalArgumentException` if takes is out of range", Edge.ARGUMENT,
            (x, takes) -> x.hydrant(0, takes), Edge.beside(1, 30));
    }
}
