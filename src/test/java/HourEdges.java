/** The five steps of an hour, and promise 9. */
final class HourEdges {
    private HourEdges() {
    }

    static void all() {
        divisions();
        crewsOpen();
        flush();
        takeOut();
        takeOutBehindTheHour();
        carry();
        addDirt();
        complain();
        close();
        pass();
        passAtItsEnds();
    }

    private static void divisions() {
        Edge.term("Terms", 9, "All numbers are integers, but for a share; divisions are rounded down.", () -> {
            int[] dirt = {0, 9, 10, 19, 20, 999};
            int[] due = {0, 0, 1, 1, 2, 99};
            for (int i = 0; i < dirt.length; i++) {
                HydrantRounds x = Sample.still();
                x.dirt(0, dirt[i]);
                x.pass(1);
                Check.dirts("a tenth of " + dirt[i], x, dirt[i] - due[i], due[i]);
            }
        });
        Edge.term("Terms", 24, "All numbers are integers, but for a share", () -> {
            HydrantRounds x = new HydrantRounds();
            x.dirt(0, 999);
            Check.same("share", 11.0 / 12.0, x.cleanShare());
        });
    }

    private static void crewsOpen() {
        Edge.term("An hour", 9,
            "1. The crews, from 0 on: each one that has a street, and can work on it, opens its hydrant", () -> {
            HydrantRounds x = new HydrantRounds();
            x.pressure(0, 35);
            Sample.give(x, "a2;b1");
            x.pass(1);
            Check.same("crew 0 is asked first", 1, x.street(2, 7));
            Check.same("35 - 1 - 20 is too low for crew 1", 0, x.street(1, 7));
            HydrantRounds y = new HydrantRounds();
            Sample.give(y, "a0;b4;c11");
            y.pass(1);
            int[] open = {1, 0, 0, 0, 1, 0, 0, 0, 0, 0, 0, 1};
            for (int street = 0; street < 12; street++) {
                Check.same("hours open of " + street, open[street], y.street(street, 7));
            }
        });
        Edge.term("An hour", 9, "for the hour.", () -> {
            HydrantRounds x = new HydrantRounds();
            x.pressure(0, 36);
            x.dirt(2, 999);
            Sample.give(x, "a2;b0");
            x.pass(1);
            Check.same("open, though crew 1 presses it to 36 - 2 - 20", 1, x.street(2, 7));
            Check.same("flushed by 14, times 2", 28, x.street(2, 6));
        });
        Edge.term("An hour", 9, "Others wait in this hour.", () -> {
            HydrantRounds x = new HydrantRounds();
            x.dirt(4, 999);
            x.pressure(2, 0);
            Sample.give(x, "a4;b4;c8");
            x.pass(1);
            Check.same("crew 1 and crew 2", 2, x.count(5));
            x.pass(2);
            Check.same("three hours", 6, x.count(5));
            HydrantRounds y = new HydrantRounds();
            y.pass(48);
            Check.same("crews without a street rest", 0, y.count(5));
        });
    }

    private static void flush() {
        Edge.term("An hour", 9,
            "the dirt becomes less by the pressure at the street, times setting 2, but not below 0", () -> {
            int[] dirt = {61, 60, 59, 1, 0};
            for (int before : dirt) {
                HydrantRounds x = Sample.still();
                x.dirt(0, before);
                x.send(0, 0);
                x.pass(1);
                Check.same("40 - 10, times 2, of " + before, before == 61 ? 1 : 0, x.street(0, 0));
                Check.same("flushed of " + before, before == 61 ? 60 : before, x.street(0, 6));
            }
            HydrantRounds x = Sample.still();
            x.set(2, 9);
            x.pressure(2, 99);
            x.hydrant(8, 1);
            x.dirt(8, 999);
            x.send(1, 8);
            x.pass(1);
            Check.same("the most: 98 times 9", 882, x.street(8, 6));
            Check.same("dirt left", 117, x.street(8, 0));
        });
        Edge.term("An hour", 9, "2. Streets with an open hydrant, by ascending numbers", () -> {
            HydrantRounds x = Sample.still();
            for (int street = 0; street < 12; street++) {
                x.dirt(street, 8);
            }
            Sample.give(x, "a11;b0");
            x.pass(1);
            Check.dirts("the others are not flushed", x, 0, 8, 8, 8, 8, 8, 8, 8, 8, 8, 8, 0);
        });
    }

    private static void takeOut() {
        Edge.term("An hour", 9, "If it is 0 then (whatever the steps 3 and 4 bring in this hour)", () -> {
            HydrantRounds x = new HydrantRounds();
            x.set(3, 20);
            x.dirt(0, 10);
            x.dirt(1, 58);
            Sample.give(x, "a1");
            x.pass(1);
            Check.same("0 + 1 + 20", 21, x.street(1, 0));
            Check.same("it is out all the same", Edge.NONE, x.round(0, 0));
            HydrantRounds y = Sample.still();
            y.dirt(1, 59);
            Sample.give(y, "a1");
            y.pass(1);
            Check.same("59 - 29 times 2", 1, y.street(1, 0));
            Check.same("it stays", 1, y.round(0, 0));
            y.set(1, 0);
            y.pressure(0, 0);
            y.pass(1);
            Check.same("it stays without pressure", 1, y.round(0, 0));
            y.dirt(1, 0);
            y.pass(1);
            Check.same("0 without flushing is 0, too", Edge.NONE, y.round(0, 0));
        });
        Edge.term("An hour", 9, "the crew takes the street, the first of its round, out of it", () -> {
            HydrantRounds x = Sample.still();
            Sample.give(x, "a4,4,8,4;b10,4;c11,11,11,11,11,11,11,11");
            x.pass(1);
            int[][] due = {{4, 8, 4, -1}, {4, -1}, {11, 11, 11, 11, 11, 11, 11, -1}};
            for (int crew = 0; crew < 3; crew++) {
                for (int place = 0; place < due[crew].length; place++) {
                    Check.same("round " + crew + " at " + place, due[crew][place], x.round(crew, place));
                }
            }
            Check.same("what waits stays in the next hour", 9, x.ifPassed(1, 3));
        });
    }

    private static void takeOutBehindTheHour() {
        Edge.term("An hour", 9, "behind this hour", () -> {
            HydrantRounds x = Sample.still();
            x.dirt(4, 10);
            Sample.give(x, "a4,9;b4");
            x.pass(1);
            Check.same("4 was open", 1, x.street(4, 7));
            Check.same("9 was not open yet", 0, x.street(9, 7));
            Check.same("crew 1 waited for crew 0", 1, x.count(5));
            Check.same("crew 1 has it still", 4, x.round(1, 0));
            x.pass(1);
            Check.same("9 was open then", 1, x.street(9, 7));
            Check.same("crew 1 opened 4", 2, x.street(4, 7));
        });
    }

    private static void carry() {
        String tenth = "of each street without an open hydrant a tenth of its dirt goes to the street that gets "
            + "its water from it";
        Edge.term("An hour", 9, "3. Water carries dirt, streets by descending numbers", () -> {
            HydrantRounds x = Sample.still();
            Sample.give(x, "a8");
            x.dirt(0, 90);
            x.dirt(1, 9);
            x.dirt(2, 1);
            x.pass(1);
            Check.dirts("what a street gets it sends on in the next hour", x, 81, 18, 1, 0);
            x.pass(1);
            Check.dirts("in the next hour", x, 73, 25, 2, 0);
        });
        Edge.term("An hour", 9, tenth, () -> {
            for (int street = 0; street < 12; street++) {
                HydrantRounds x = Sample.still();
                x.valve(0, true);
                x.valve(1, true);
                x.dirt(street, 100);
                x.pass(1);
                Check.same("street " + street, street == 11 ? 100 : 90, x.street(street, 0));
                Check.same("dirt of all", 100, x.count(1));
                if (street < 11) {
                    Check.same("the next one", 10, x.street(street + 1, 0));
                }
            }
        });
        Edge.term("An hour", 9, "if there is none, its dirt stays", () -> {
            for (int street : new int[] {3, 7, 11}) {
                HydrantRounds x = Sample.still();
                x.dirt(street, 999);
                x.pass(1);
                Check.same("street " + street, 999, x.street(street, 0));
                Check.same("lost", 0, x.count(7));
            }
        });
        Edge.term("An hour", 9, "Streets with an open hydrant send nothing on.", () -> {
            HydrantRounds x = Sample.still();
            x.dirt(0, 20);
            x.dirt(1, 158);
            Sample.give(x, "a1");
            x.pass(1);
            Check.dirts("1 has 100 left, and gets 2", x, 18, 102, 0, 0);
            x.skip(0);
            x.pass(1);
            Check.dirts("shut again", x, 17, 93, 10, 0);
        });
    }

    private static void addDirt() {
        Edge.term("An hour", 9, "4. Each street gets setting 3 more dirt.", () -> {
            for (int more : new int[] {0, 1, 20}) {
                HydrantRounds x = new HydrantRounds();
                x.set(3, more);
                Sample.give(x, "a0;b7");
                x.pass(1);
                for (int street = 0; street < 12; street++) {
                    Check.same("street " + street, more, x.street(street, 0));
                }
            }
        });
        Edge.term("An hour", 9, "A street never has more than 999", () -> {
            HydrantRounds x = new HydrantRounds();
            x.set(3, 20);
            x.dirt(3, 979);
            x.dirt(7, 980);
            x.dirt(11, 999);
            x.pass(1);
            for (int street : new int[] {3, 7, 11}) {
                Check.same("dirt of " + street, 999, x.street(street, 0));
            }
            Check.same("lost: 0, 1 and 20", 21, x.count(7));
        });
        Edge.term("An hour", 9, "also behind the step 3", () -> {
            HydrantRounds x = Sample.still();
            x.dirt(2, 19);
            x.dirt(3, 998);
            x.pass(1);
            Check.same("998 + 1", 999, x.street(3, 0));
            Check.same("nothing is lost", 0, x.count(7));
            x.pass(1);
            Check.same("999 + 1", 999, x.street(3, 0));
            Check.same("1 is lost", 1, x.count(7));
            HydrantRounds y = Sample.still();
            y.dirt(1, 999);
            y.dirt(2, 999);
            y.pass(1);
            Check.dirts("2 sends ahead of what it gets", y, 0, 900, 999, 99);
            Check.same("nothing of it is lost", 0, y.count(7));
        });
        Edge.term("An hour", 9, "what is more is lost", () -> {
            HydrantRounds x = new HydrantRounds();
            x.set(3, 20);
            x.valve(0, true);
            x.dirt(3, 999);
            x.dirt(7, 990);
            x.dirt(6, 999);
            int all = x.count(1);
            x.pass(1);
            Check.same("7: 990 + 99 + 20 - 999", 110, x.count(7));
            Check.same("all dirt, but what is lost", all + 12 * 20 - 110, x.count(1));
        });
    }

    private static void complain() {
        Edge.term("An hour", 9, "5. For each street that is brown then, complaints become more by 1", () -> {
            HydrantRounds x = new HydrantRounds();
            x.dirt(3, 19);
            Check.same("20 behind the steps 3 and 4", 0, x.pass(1));
            Check.same("21 behind them", 1, x.pass(1));
            HydrantRounds y = Sample.still();
            y.dirt(0, 80);
            y.dirt(4, 81);
            Sample.give(y, "a0;b4");
            Check.same("flushed to 20 and 21", 1, y.pass(1));
            Check.same("complaints of 0", 0, y.street(0, 5));
            Check.same("complaints of 4", 1, y.street(4, 5));
            HydrantRounds z = Sample.still();
            for (int street = 0; street < 12; street++) {
                z.dirt(street, 500);
            }
            Check.same("all streets", 12, z.pass(1));
        });
        Edge.term("An hour", 9, "by 1 more if it was brown at the end of the hour before, too", () -> {
            HydrantRounds x = Sample.still();
            x.dirt(11, 100);
            int[] due = {1, 2, 2};
            for (int hour = 0; hour < due.length; hour++) {
                Check.same("hour " + hour, due[hour], x.pass(1));
            }
            x.dirt(11, 0);
            x.dirt(11, 100);
            Check.same("it was brown at the end, not in between", 2, x.pass(1));
            x.dirt(11, 0);
            Check.same("clean for an hour", 0, x.pass(1));
            x.dirt(11, 100);
            Check.same("brown again", 1, x.pass(1));
            x.dirt(7, 100);
            Check.same("each street for itself", 3, x.pass(1));
        });
        Edge.term("An hour", 9, "(ahead of the first hour none was)", () -> {
            for (int street = 0; street < 12; street++) {
                HydrantRounds x = Sample.still();
                x.dirt(street, 999);
                x.pressure(0, 41);
                Check.same("street " + street, street % 4 == 3 ? 1 : 2, x.pass(1));
            }
        });
    }

    private static void close() {
        Edge.term("An hour", 9, "Hydrants are closed then", () -> {
            HydrantRounds x = Sample.still();
            x.dirt(1, 999);
            Sample.give(x, "a1;b4");
            x.pass(1);
            int[] due = {40, 39, 38, 37, 40, 39, 38, 37};
            for (int street = 0; street < due.length; street++) {
                Check.same("pressure at " + street, due[street], x.street(street, 3));
            }
            x.skip(0);
            x.pass(1);
            Check.same("1 was open once", 1, x.street(1, 7));
            Check.same("4 was open once", 1, x.street(4, 7));
        });
        Edge.term("An hour", 9, "and the hour has gone", () -> {
            HydrantRounds x = new HydrantRounds();
            x.pass(1);
            Check.same("one hour", 1, x.count(0));
        });
    }

    private static void pass() {
        Edge.promise(9, "Lets hours pass.", () -> {
            HydrantRounds one = Sample.busy();
            HydrantRounds many = Sample.busy();
            for (int hour = 0; hour < 48; hour++) {
                one.pass(1);
            }
            many.pass(48);
            Check.same("hours", 50, many.count(0));
            Check.isTrue("48 hours at once are not 48 times an hour", Look.at(one).equals(Look.at(many)));
        });
        Edge.undoable(9, "Undoable, as one call.", (x, hours) -> x.pass(hours), 1, 2, 48);
        Edge.promise(9, "Returns how many complaints there are in them.", () -> {
            HydrantRounds x = Sample.still();
            x.dirt(3, 999);
            Check.same("the first hour", 1, x.pass(1));
            Check.same("two hours, without the first one", 4, x.pass(2));
            Check.same("48 hours", 96, x.pass(48));
            x.dirt(3, 20);
            Check.same("none", 0, x.pass(48));
            Check.same("all", 101, x.count(3));
        });
    }

    private static void passAtItsEnds() {
        Edge.promise(9, "`hours`: 1 to 48", () -> {
            for (int hours : new int[] {1, 48}) {
                HydrantRounds x = new HydrantRounds();
                x.pass(hours);
                Check.same("hours", hours, x.count(0));
            }
        });
        Edge.refuses(9, "Throws `IllegalArgumentException` if hours is out of range", Edge.ARGUMENT,
            (x, hours) -> x.pass(hours), Edge.beside(1, 48));
    }
}
