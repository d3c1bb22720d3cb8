/** Looks: promises 15 to 19. */
final class LookEdges {
    private LookEdges() {
    }

    static void all() {
        street();
        streetNumbersOfHours();
        streetAtItsEnds();
        round();
        count();
        countsOfHours();
        countAtItsEnds();
        setting();
        waits();
        waitsAtItsEnds();
    }

    private static void street() {
        Edge.promise(15, "Returns something of a street, all hydrants shut.", () -> {
            HydrantRounds x = new HydrantRounds();
            x.dirt(0, 999);
            Sample.give(x, "a0;b1;c3");
            x.waits(0);
            Check.same("behind waits", 40, x.street(0, 3));
            x.leastPressure(0);
            Check.same("behind leastPressure", 40, x.street(0, 3));
            x.pass(1);
            Check.same("behind an hour", 37, x.street(3, 3));
        });
        Edge.promise(15, "0: its dirt", () -> {
            HydrantRounds x = new HydrantRounds();
            for (int dirt : new int[] {0, 1, 999}) {
                x.dirt(11, dirt);
                Check.same("dirt", dirt, x.street(11, 0));
            }
        });
        Edge.promise(15, "1: what its hydrant takes", () -> {
            HydrantRounds x = new HydrantRounds();
            for (int takes : new int[] {1, 30, 7}) {
                x.hydrant(11, takes);
                Check.same("takes", takes, x.street(11, 1));
            }
        });
        Edge.promise(15, "2: 1 if it is brown, otherwise 0", () -> {
            HydrantRounds x = new HydrantRounds();
            int[] dirt = {0, 20, 21, 999};
            int[] due = {0, 0, 1, 1};
            for (int i = 0; i < dirt.length; i++) {
                x.dirt(11, dirt[i]);
                Check.same("brown with " + dirt[i], due[i], x.street(11, 2));
            }
        });
        Edge.promise(15, "3: the pressure at it", () -> {
            HydrantRounds x = new HydrantRounds();
            x.pressure(0, 2);
            int[] due = {2, 1, 0, 0, 40, 39, 38, 37, 40, 39, 38, 37};
            for (int street = 0; street < 12; street++) {
                Check.same("pressure at " + street, due[street], x.street(street, 3));
            }
        });
        Edge.promise(15, "4: the street from which its water comes, NONE if from the works", () -> {
            HydrantRounds x = new HydrantRounds();
            x.valve(1, true);
            int[] due = {Edge.NONE, 0, 1, 2, Edge.NONE, 4, 5, 6, 7, 8, 9, 10};
            for (int street = 0; street < 12; street++) {
                Check.same("water of " + street, due[street], x.street(street, 4));
            }
        });
    }

    private static void streetNumbersOfHours() {
        Edge.promise(15, "5: complaints so far", () -> {
            HydrantRounds x = Sample.still();
            x.dirt(11, 999);
            for (int hours = 1; hours <= 3; hours++) {
                x.pass(1);
                Check.same("complaints", 2 * hours - 1, x.street(11, 5));
            }
            Check.same("of another one", 0, x.street(10, 5));
            x.dirt(11, 0);
            x.pass(1);
            Check.same("still", 5, x.street(11, 5));
        });
        Edge.promise(15, "6: dirt that was flushed out of it so far", () -> {
            HydrantRounds x = Sample.still();
            x.dirt(11, 100);
            x.send(0, 11);
            int[] due = {54, 100, 100};
            for (int flushed : due) {
                x.pass(1);
                Check.same("flushed", flushed, x.street(11, 6));
            }
            x.dirt(11, 999);
            x.send(2, 11);
            x.pass(1);
            Check.same("flushed again", 154, x.street(11, 6));
            Check.same("of another one", 0, x.street(10, 6));
            x.dirt(11, 0);
            Check.same("taken away is not flushed", 154, x.street(11, 6));
        });
        Edge.promise(15, "7: hours so far in which its hydrant was open", () -> {
            HydrantRounds x = Sample.still();
            x.dirt(10, 21);
            x.send(0, 11);
            x.pass(1);
            Check.same("its crew waited", 0, x.street(11, 7));
            x.dirt(10, 0);
            x.dirt(11, 100);
            x.pass(48);
            Check.same("until it was clean", 2, x.street(11, 7));
            Check.same("of another one", 0, x.street(10, 7));
        });
    }

    private static void streetAtItsEnds() {
        Edge.allows(15, "`street`: 0 to 11", (x, street) -> x.street(street, 0), 0, 11);
        Edge.allows(15, "`what`: 0: its dirt", (x, what) -> x.street(11, what), 0, 7);
        Edge.promise(15, "Returns the number.", () -> {
            HydrantRounds x = new HydrantRounds();
            x.dirt(7, 999);
            x.pass(48);
            int[] due = {999, 10, 1, 37, 6, 95, 0, 0};
            for (int what = 0; what < due.length; what++) {
                Check.same("street(7, " + what + ")", due[what], x.street(7, what));
            }
        });
        Edge.refuses(15, "Throws `IndexOutOfBoundsException` if there is no such street", Edge.INDEX,
            (x, street) -> x.street(street, 3), Edge.beside(0, 11));
        for (int street : new int[] {0, 11}) {
            Edge.refuses(15, "Throws `IllegalArgumentException` if what is not 0 to 7", Edge.ARGUMENT,
                (x, what) -> x.street(street, what), Edge.beside(0, 7));
        }
    }

    private static void round() {
        Edge.promise(16, "Returns a street of the round of a crew.", () -> {
            HydrantRounds x = new HydrantRounds();
            Sample.give(x, "a0;b11,3;c5,5,7");
            int[][] due = {{0, -1, -1, -1}, {11, 3, -1, -1}, {5, 5, 7, -1}};
            for (int crew = 0; crew < 3; crew++) {
                for (int place = 0; place < 4; place++) {
                    Check.same("round(" + crew + ", " + place + ")", due[crew][place], x.round(crew, place));
                }
            }
        });
        Edge.allows(16, "`crew`: 0 to 2", (x, crew) -> x.round(crew, 0), 0, 2);
        Edge.allows(16,
            "`place`: its place in the round, from 0", (x, place) -> x.round(0, place), 0, Integer.MAX_VALUE);
        Edge.promise(16, "Returns the street, NONE if there are not so many.", () -> {
            HydrantRounds x = new HydrantRounds();
            for (int crew = 0; crew < 3; crew++) {
                Check.same("an empty round", Edge.NONE, x.round(crew, 0));
                for (int length = 1; length <= 8; length++) {
                    x.send(crew, 12 - length);
                    Check.same("the last of " + length, 12 - length, x.round(crew, length - 1));
                    Check.same("behind the last of " + length, Edge.NONE, x.round(crew, length));
                }
                Check.same("far behind", Edge.NONE, x.round(crew, 9));
                Check.same("the farthest", Edge.NONE, x.round(crew, Integer.MAX_VALUE));
                x.skip(crew);
                Check.same("the last of 7", 4, x.round(crew, 6));
                Check.same("behind the last of 7", Edge.NONE, x.round(crew, 7));
            }
        });
        Edge.refuses(16, "Throws `IndexOutOfBoundsException` if there is no such crew", Edge.INDEX,
            (x, crew) -> x.round(crew, 0), Edge.beside(0, 2));
        for (int crew : new int[] {0, 2}) {
            Edge.refuses(16, "Throws `IllegalArgumentException` if place is below 0", Edge.ARGUMENT,
                (x, place) -> x.round(crew, place), -1, -2, Integer.MIN_VALUE);
        }
    }

    private static void count() {
        Edge.promise(17, "1: dirt of all streets", () -> {
            HydrantRounds x = new HydrantRounds();
            int due = 0;
            for (int street = 0; street < 12; street++) {
                Check.same("dirt", due, x.count(1));
                x.dirt(street, 999);
                due += 999;
            }
            Check.same("the most", 11988, x.count(1));
        });
        Edge.promise(17, "2: brown streets", () -> {
            HydrantRounds x = new HydrantRounds();
            for (int street = 0; street < 12; street++) {
                x.dirt(street, 20);
                Check.same("20 is not brown", street, x.count(2));
                x.dirt(street, 21);
                Check.same("21 is", street + 1, x.count(2));
            }
        });
        Edge.promise(17, "6: streets in all rounds together", () -> {
            HydrantRounds x = new HydrantRounds();
            Check.same("none", 0, x.count(6));
            for (int i = 0; i < 24; i++) {
                x.send(i % 3, 5);
                Check.same("streets", i + 1, x.count(6));
            }
            x.skip(2);
            Check.same("less", 23, x.count(6));
        });
        Edge.promise(17, "8: saved states", () -> {
            HydrantRounds x = new HydrantRounds();
            for (int saved = 0; saved < 9; saved++) {
                Check.same("saved", saved < 6 ? saved : 6, x.count(8));
                x.skip(0);
            }
            x.undo();
            Check.same("behind undo", 5, x.count(8));
        });
    }

    private static void countsOfHours() {
        Edge.promise(17, "0: the hours that have gone", () -> {
            HydrantRounds x = new HydrantRounds();
            Check.same("none", 0, x.count(0));
            x.pass(48);
            x.pass(1);
            Check.same("hours", 49, x.count(0));
            x.ifPassed(48, 0);
            x.clearIn();
            x.bestStreet();
            Check.same("what would be has not gone", 49, x.count(0));
        });
        Edge.promise(17, "3: complaints so far", () -> {
            HydrantRounds x = Sample.still();
            x.dirt(0, 300);
            x.dirt(11, 21);
            x.pass(3);
            x.dirt(11, 0);
            x.pass(1);
            int due = 0;
            for (int street = 0; street < 12; street++) {
                due += x.street(street, 5);
            }
            Check.same("of all streets", due, x.count(3));
            Check.same("0 and 1: 1 and 3 times 2, 11: 1 and 2 times 2", 19, x.count(3));
        });
        Edge.promise(17, "4: dirt that was flushed out so far", () -> {
            HydrantRounds x = Sample.still();
            x.dirt(0, 70);
            x.dirt(11, 30);
            Sample.give(x, "a0;c11");
            x.pass(1);
            Check.same("60 and 30", 90, x.count(4));
            x.pass(1);
            Check.same("10 more", 100, x.count(4));
        });
        Edge.promise(17, "5: hours so far in which crews waited, all crews together", () -> {
            HydrantRounds x = Sample.still();
            x.pressure(0, 0);
            Sample.give(x, "a0;b0;c0");
            x.pass(48);
            Check.same("three crews", 144, x.count(5));
            x.skip(1);
            x.pass(1);
            Check.same("one of them rests", 146, x.count(5));
            x.pressure(0, 40);
            x.pass(1);
            Check.same("one of them works", 147, x.count(5));
        });
        Edge.promise(17, "7: dirt that was lost so far by the limit of 999", () -> {
            HydrantRounds x = new HydrantRounds();
            x.dirt(11, 998);
            x.pass(1);
            Check.same("999", 0, x.count(7));
            x.pass(1);
            Check.same("1000", 1, x.count(7));
            x.pass(3);
            Check.same("three hours more", 4, x.count(7));
            x.dirt(11, 0);
            Check.same("taken away is not lost", 4, x.count(7));
        });
    }

    private static void countAtItsEnds() {
        Edge.promise(17, "Returns a number.", () -> {
            HydrantRounds x = Sample.busy();
            long before = x.digest();
            for (int what = 0; what < 9; what++) {
                x.count(what);
                Check.same("digest behind count(" + what + ")", before, x.digest());
            }
        });
        Edge.allows(17, "`what`: 0: the hours that have gone", (x, what) -> x.count(what), 0, 8);
        Edge.promise(17, "Returns the number.", () -> {
            HydrantRounds x = new HydrantRounds();
            for (int what = 0; what < 9; what++) {
                Check.same("count(" + what + ") of a new object", 0, x.count(what));
            }
        });
        Edge.refuses(17, "Throws `IllegalArgumentException` if what is not 0 to 8", Edge.ARGUMENT,
            (x, what) -> x.count(what), Edge.beside(0, 8));
    }

    private static void setting() {
        Edge.promise(18, "Returns a setting.", () -> {
            HydrantRounds x = new HydrantRounds();
            int[] due = {20, 15, 2, 1};
            for (int setting = 0; setting < 4; setting++) {
                Check.same("at first", due[setting], x.setting(setting));
            }
        });
        Edge.allows(18, "`setting`: 0 to 3", (x, setting) -> x.setting(setting), 0, 3);
        Edge.promise(18, "Returns its value.", () -> {
            HydrantRounds x = new HydrantRounds();
            for (int[] given : new int[][] {{99, 60, 9, 20}, {0, 0, 1, 0}}) {
                for (int setting = 0; setting < 4; setting++) {
                    x.set(setting, given[setting]);
                }
                for (int setting = 0; setting < 4; setting++) {
                    Check.same("setting " + setting, given[setting], x.setting(setting));
                }
            }
        });
        Edge.refuses(18, "Throws `IndexOutOfBoundsException` if there is no such setting", Edge.INDEX,
            (x, setting) -> x.setting(setting), Edge.beside(0, 3));
    }

    private static void waits() {
        Edge.promise(19, "Tells why a crew would wait in the next hour.", () -> {
            HydrantRounds x = new HydrantRounds();
            x.dirt(4, 999);
            Sample.give(x, "a4;b4;c5");
            int[] due = {0, 1, 3};
            for (int crew = 0; crew < 3; crew++) {
                Check.same("crew " + crew, due[crew], x.waits(crew));
            }
            x.pass(1);
            Check.same("two waited, as was told", 2, x.count(5));
        });
        Edge.promise(19, "Returns the reason, 1 to 3", () -> {
            HydrantRounds x = new HydrantRounds();
            x.dirt(8, 21);
            Sample.give(x, "a0;b0;c9");
            Check.same("1", 1, x.waits(1));
            Check.same("3", 3, x.waits(2));
            x.pressure(2, 0);
            Check.same("2", 2, x.waits(2));
        });
        Edge.promise(19, "by the crews with lower numbers as they would work in the next hour", () -> {
            HydrantRounds x = new HydrantRounds();
            x.pressure(0, 26);
            Sample.give(x, "a1;b0;c8");
            Check.same("crew 0 would work: 26 - 1 - 10", 0, x.waits(0));
            Check.same("26 - 10 - 10", 2, x.waits(1));
            x.dirt(0, 21);
            Check.same("crew 0 would wait", 3, x.waits(0));
            Check.same("26 - 10", 0, x.waits(1));
            x.skip(0);
            Check.same("crew 0 rests", 0, x.waits(1));
            Sample.give(x, "a0;b1;c0");
            x.dirt(0, 0);
            x.pressure(0, 30);
            Check.same("30 - 1 - 20", 2, x.waits(1));
            Check.same("crew 0 is on it", 1, x.waits(2));
        });
        Edge.promise(19, "0 if it would work", () -> {
            HydrantRounds x = new HydrantRounds();
            Sample.give(x, "a3;b7;c11");
            for (int crew = 0; crew < 3; crew++) {
                Check.same("crew " + crew, 0, x.waits(crew));
            }
        });
        Edge.promise(19, "NONE if it has no street", () -> {
            HydrantRounds x = new HydrantRounds();
            Sample.give(x, "b1");
            int[] due = {Edge.NONE, 0, Edge.NONE};
            for (int crew = 0; crew < 3; crew++) {
                Check.same("crew " + crew, due[crew], x.waits(crew));
            }
            x.pass(1);
            Check.same("crew 1 is through", Edge.NONE, x.waits(1));
        });
    }

    private static void waitsAtItsEnds() {
        Edge.allows(19, "`crew`: 0 to 2", (x, crew) -> x.waits(crew), 0, 2);
        Edge.refuses(19, "Throws `IndexOutOfBoundsException` if there is no such crew", Edge.INDEX,
            (x, crew) -> x.waits(crew), Edge.beside(0, 2));
    }
}
