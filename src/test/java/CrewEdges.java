/** Crews, their rounds and the reasons to wait, the settings, and promises 6 to 8. */
final class CrewEdges {
    private static final int[] FIRST = {20, 15, 2, 1};
    private static final int[] LEAST = {0, 0, 1, 0};
    private static final int[] MOST = {99, 60, 9, 20};

    private CrewEdges() {
    }

    static void all() {
        crews();
        firstReason();
        streetIsTaken();
        pressureIsTooLow();
        pressureWithOthers();
        waterIsBrown();
        send();
        skip();
        set();
        settingsAtTheirEnds();
    }

    private static void crews() {
        Edge.term("Terms", 6, "There are 3 crews, numbered from 0", () -> {
            HydrantRounds x = new HydrantRounds();
            for (int crew = 0; crew < 3; crew++) {
                x.send(crew, 4 + crew);
                Check.same("crew " + crew, 4 + crew, x.round(crew, 0));
            }
            Check.refusesEach(x, "crew", Edge.INDEX, (y, crew) -> y.send(crew, 1), -1, 3);
        });
        Edge.term("Terms", 6, "A crew has a round, at most 8 streets in an order", () -> {
            for (int i = 0; i < 3; i++) {
                HydrantRounds x = new HydrantRounds();
                int crew = i;
                for (int place = 0; place < 8; place++) {
                    x.send(crew, 11 - place);
                }
                for (int place = 0; place < 8; place++) {
                    Check.same("place " + place, 11 - place, x.round(crew, place));
                }
                Check.refuses(x, "a ninth", Edge.STATE, () -> x.send(crew, 0));
                Check.same("another crew's round is not full", 1, x.send((crew + 1) % 3, 0));
            }
        });
        Edge.term("Terms", 9, "works on its first one, or rests without any", () -> {
            HydrantRounds x = new HydrantRounds();
            x.dirt(4, 999);
            Sample.give(x, "b4,8");
            Check.same("crew 0 rests", Edge.NONE, x.waits(0));
            Check.same("crew 1 works", 0, x.waits(1));
            x.pass(1);
            Check.same("on its first one", 1, x.street(4, 7));
            Check.same("not on its second one", 0, x.street(8, 7));
            Check.same("who rests does not wait", 0, x.count(5));
        });
        Edge.term("Terms", 9, "Of crews that would work on the same street the lowest works, the others wait", () -> {
            HydrantRounds x = new HydrantRounds();
            x.dirt(4, 999);
            Sample.give(x, "a4;b4;c4");
            int[] due = {0, 1, 1};
            for (int crew = 0; crew < 3; crew++) {
                Check.same("crew " + crew, due[crew], x.waits(crew));
            }
            x.pass(1);
            Check.same("two waited", 2, x.count(5));
            Check.same("it was flushed once, with 40 - 10", 60, x.street(4, 6));
            Check.same("one hour open", 1, x.street(4, 7));
            x.skip(0);
            Check.same("the lowest of the other two", 0, x.waits(1));
            Check.same("the last one", 1, x.waits(2));
        });
    }

    private static void firstReason() {
        Edge.term("Terms", 19, "A crew cannot work on a street, for the first of these reasons that applies", () -> {
            HydrantRounds x = new HydrantRounds();
            x.valve(0, true);
            x.pressure(0, 27);
            Sample.give(x, "a4;b0;c4");
            Check.same("27 - 3 ahead", 0, x.waits(0));
            Check.same("27 - 10", 0, x.waits(1));
            Check.same("1, though 27 - 3 - 10 is too low then, too", 1, x.waits(2));
            HydrantRounds y = new HydrantRounds();
            y.pressure(0, 0);
            y.dirt(0, 999);
            y.send(0, 1);
            Check.same("2, though the water is brown, too", 2, y.waits(0));
            y.pressure(0, 40);
            Check.same("3 at last", 3, y.waits(0));
            y.dirt(0, 0);
            Check.same("no reason", 0, y.waits(0));
        });
    }

    private static void streetIsTaken() {
        Edge.term("Terms", 19, "1: a crew with a lower number works on it", () -> {
            HydrantRounds x = new HydrantRounds();
            Sample.give(x, "a8;c8");
            Check.same("by crew 0", 1, x.waits(2));
            Sample.give(x, "a9,8");
            Check.same("it is not the first one of crew 0", 0, x.waits(2));
            Sample.give(x, "a9;b8;c8");
            Check.same("by crew 1", 1, x.waits(2));
            Check.same("not by a higher one", 0, x.waits(1));
            x.pressure(2, 0);
            Check.same("crew 1 does not work on it", 2, x.waits(1));
            Check.same("so it is not taken", 2, x.waits(2));
        });
    }

    private static void pressureIsTooLow() {
        Edge.term("Terms", 19, "2: the pressure at the street would be below setting 1 with its hydrant open", () -> {
            for (int street : new int[] {0, 3, 8, 11}) {
                HydrantRounds x = new HydrantRounds();
                x.hydrant(street, 30);
                x.send(0, street);
                x.pressure(street / 4, 45 + street % 4);
                Check.same("just setting 1", 0, x.waits(0));
                x.pressure(street / 4, 44 + street % 4);
                Check.same("one less", 2, x.waits(0));
            }
            HydrantRounds x = new HydrantRounds();
            x.send(0, 0);
            x.set(1, 60);
            x.pressure(0, 70);
            Check.same("just 60", 0, x.waits(0));
            x.pressure(0, 69);
            Check.same("59", 2, x.waits(0));
            x.set(1, 0);
            x.pressure(0, 0);
            Check.same("0 is not below 0", 0, x.waits(0));
            x.set(1, 1);
            x.pressure(0, 10);
            Check.same("0 is below 1", 2, x.waits(0));
            x.pressure(0, 11);
            Check.same("1 is not", 0, x.waits(0));
        });
    }

    private static void pressureWithOthers() {
        Edge.term("Terms", 19, "(and those that are open already in this hour)", () -> {
            HydrantRounds x = new HydrantRounds();
            Sample.give(x, "a2;b1");
            x.pressure(0, 36);
            Check.same("36 - 1 - 20", 0, x.waits(1));
            x.pressure(0, 35);
            Check.same("35 - 1 - 20", 2, x.waits(1));
            Check.same("one that a higher crew would open is not open yet: 35 - 2 - 10", 0, x.waits(0));
            x.dirt(1, 999);
            Check.same("crew 0 waits", 3, x.waits(0));
            Check.same("then its hydrant is not open: 35 - 1 - 10", 0, x.waits(1));
            HydrantRounds y = new HydrantRounds();
            Sample.give(y, "a4;b8");
            y.pressure(1, 28);
            Check.same("open in another zone", 0, y.waits(1));
            y.valve(1, true);
            Check.same("open in the zone ahead: 28 - 3 - 10", 0, y.waits(1));
            y.pressure(1, 27);
            Check.same("27 - 3 - 10", 2, y.waits(1));
            HydrantRounds z = new HydrantRounds();
            Sample.give(z, "a0;b1;c3");
            z.pressure(0, 48);
            Check.same("48 - 3 - 30", 0, z.waits(2));
            z.pressure(0, 47);
            Check.same("47 - 3 - 30", 2, z.waits(2));
        });
    }

    private static void waterIsBrown() {
        Edge.term("Terms", 19, "3: the street from which its water comes is brown", () -> {
            for (int street : new int[] {1, 3, 4, 8, 11}) {
                HydrantRounds x = new HydrantRounds();
                x.valve(0, true);
                x.valve(1, true);
                x.send(0, street);
                x.dirt(street - 1, 20);
                Check.same("it is not brown yet", 0, x.waits(0));
                x.dirt(street - 1, 21);
                Check.same("it is brown", 3, x.waits(0));
                x.set(0, 21);
                Check.same("not by setting 0", 0, x.waits(0));
            }
            HydrantRounds x = new HydrantRounds();
            x.send(0, 2);
            x.dirt(0, 999);
            x.dirt(2, 999);
            x.dirt(3, 999);
            Check.same("other streets, and the street itself", 0, x.waits(0));
        });
        Edge.term("Terms", 9, "3: the street from which its water comes is brown", () -> {
            HydrantRounds x = new HydrantRounds();
            x.dirt(0, 30);
            Sample.give(x, "a0;b1");
            x.pass(1);
            Check.same("it was brown when the hour began", 0, x.street(1, 7));
            Check.same("crew 1 waited", 1, x.count(5));
            x.pass(1);
            Check.same("it is clean in the next hour", 1, x.street(1, 7));
        });
        Edge.term("Terms", 19, "(the works never are)", () -> {
            for (int street : new int[] {0, 4, 8}) {
                HydrantRounds x = new HydrantRounds();
                for (int brown = 0; brown < 12; brown++) {
                    x.dirt(brown, 999);
                }
                x.send(0, street);
                Check.same("street " + street, 0, x.waits(0));
            }
        });
    }

    private static void send() {
        Edge.promise(6, "Puts a street behind the round of a crew (also one that is in it already).", () -> {
            HydrantRounds x = new HydrantRounds();
            int[] sent = {11, 0, 11, 11};
            for (int street : sent) {
                x.send(2, street);
            }
            for (int place = 0; place < sent.length; place++) {
                Check.same("place " + place, sent[place], x.round(2, place));
            }
            Check.same("behind them", Edge.NONE, x.round(2, sent.length));
            Check.same("another crew", Edge.NONE, x.round(1, 0));
        });
        Edge.undoable(6, "Undoable.", (x, street) -> x.send(0, street), 0, 5, 11);
        Edge.allows(6, "`crew`: 0 to 2", (x, crew) -> x.send(crew, 3), 0, 2);
        Edge.allows(6, "`street`: 0 to 11", (x, street) -> x.send(1, street), 0, 11);
        Edge.promise(6, "Returns how many streets the round has then.", () -> {
            HydrantRounds x = new HydrantRounds();
            x.send(1, 4);
            for (int length = 1; length <= 8; length++) {
                Check.same("send", length, x.send(0, 7));
            }
            x.skip(0);
            Check.same("send behind a skip", 8, x.send(0, 7));
        });
        Edge.refuses(6, "Throws `IndexOutOfBoundsException` if there is no such crew or street", Edge.INDEX,
            (x, crew) -> x.send(crew, 3), Edge.beside(0, 2));
        Edge.refuses(6, "Throws `IndexOutOfBoundsException` if there is no such crew or street", Edge.INDEX,
            (x, street) -> x.send(2, street), Edge.beside(0, 11));
        Edge.promise(6, "Throws `IllegalStateException` if the round has 8", () -> {
            HydrantRounds x = new HydrantRounds();
            Sample.give(x, "a0,1,2,3,4,5,6;b0,1,2,3,4,5,6,7;c1,1,1,1,1,1,1,1");
            Check.same("the eighth street", 8, x.send(0, 9));
            Check.isTrue("a ninth, ahead of any look", Edge.STATE == Check.thrownBy(() -> x.send(0, 9)));
            Check.refusesEach(x, "a ninth of crew", Edge.STATE, (y, crew) -> y.send(crew, 0), 0, 1, 2);
        });
    }

    private static void skip() {
        Edge.promise(7, "Lets a crew skip the first street of its round.", () -> {
            HydrantRounds x = new HydrantRounds();
            Sample.give(x, "a1;b5,6,5,7,8,9,10,11;c2");
            x.skip(1);
            int[] due = {6, 5, 7, 8, 9, 10, 11, -1};
            for (int place = 0; place < due.length; place++) {
                Check.same("place " + place, due[place], x.round(1, place));
            }
            Check.same("crew 0", 1, x.round(0, 0));
            Check.same("crew 2", 2, x.round(2, 0));
            x.skip(2);
            Check.same("its only street", Edge.NONE, x.round(2, 0));
        });
        Edge.undoable(7, "Undoable.", (x, crew) -> x.skip(crew), 0, 1, 2);
        Edge.allows(7, "`crew`: 0 to 2", (x, crew) -> x.skip(crew), 0, 2);
        Edge.promise(7, "Returns the street", () -> {
            HydrantRounds x = new HydrantRounds();
            Sample.give(x, "a11,0");
            Check.same("the first one", 11, x.skip(0));
            Check.same("the last one", 0, x.skip(0));
        });
        Edge.promise(7, "NONE if it has none (then nothing is changed, but a state is saved)", () -> {
            HydrantRounds x = new HydrantRounds();
            x.dirt(1, 300);
            Sample.give(x, "a1,2;c0");
            Object before = Look.at(x);
            Check.same("skip", Edge.NONE, x.skip(1));
            Check.isTrue("something is changed", before.equals(Look.at(x)));
            Check.same("saved states", 3, x.count(8));
            Check.same("round", Edge.NONE, x.round(1, 0));
            Check.same("the next street that is sent", 1, x.send(1, 6));
        });
        Edge.refuses(7, "Throws `IndexOutOfBoundsException` if there is no such crew", Edge.INDEX,
            (x, crew) -> x.skip(crew), Edge.beside(0, 2));
    }

    private static void set() {
        Edge.promise(8, "Changes a setting.", () -> {
            for (int setting = 0; setting < 4; setting++) {
                HydrantRounds x = new HydrantRounds();
                x.set(setting, 7);
                for (int other = 0; other < 4; other++) {
                    Check.same("setting " + other, other == setting ? 7 : FIRST[other], x.setting(other));
                }
            }
        });
        for (int i = 0; i < 4; i++) {
            int setting = i;
            Edge.undoable(8, "Undoable.", (x, value) -> x.set(setting, value), LEAST[i], FIRST[i], MOST[i]);
        }
        Edge.allows(8, "`setting`: 0 to 3", (x, setting) -> x.set(setting, 5), 0, 3);
        Edge.promise(8, "`value`: the new value", () -> {
            HydrantRounds x = new HydrantRounds();
            x.set(1, 33);
            x.set(1, 44);
            Check.same("setting 1", 44, x.setting(1));
        });
        Edge.promise(8, "Returns the previous value.", () -> {
            for (int setting = 0; setting < 4; setting++) {
                HydrantRounds x = new HydrantRounds();
                Check.same("its first", FIRST[setting], x.set(setting, MOST[setting]));
                Check.same("its most", MOST[setting], x.set(setting, LEAST[setting]));
                Check.same("its least", LEAST[setting], x.set(setting, LEAST[setting]));
            }
        });
        Edge.refuses(8, "Throws `IndexOutOfBoundsException` if there is no such setting", Edge.INDEX,
            (x, setting) -> x.set(setting, 5), Edge.beside(0, 3));
        for (int i = 0; i < 4; i++) {
            int setting = i;
            Edge.refuses(8, "Throws `IllegalArgumentException` if value is out of range", Edge.ARGUMENT,
                (x, value) -> x.set(setting, value), Edge.beside(LEAST[i], MOST[i]));
        }
    }

    private static void hasRange(int setting, String sentence, Edge.Body ends) {
        Edge.term("Settings", 8, sentence, () -> {
            HydrantRounds x = new HydrantRounds();
            Check.same("at first", FIRST[setting], x.setting(setting));
            for (int value : new int[] {LEAST[setting], MOST[setting]}) {
                x.set(setting, value);
                Check.same("setting", value, x.setting(setting));
            }
            Check.refusesEach(x, "value", Edge.ARGUMENT, (y, value) -> y.set(setting, value), LEAST[setting] - 1,
                MOST[setting] + 1);
            ends.run();
        });
    }

    private static void settingsAtTheirEnds() {
        hasRange(0, "0: the dirt that is not brown, 0 to 99, at first 20", () -> {
            HydrantRounds x = Sample.still();
            for (int clean : new int[] {0, 20, 99}) {
                x.set(0, clean);
                x.dirt(3, clean);
                Check.same("no complaint with " + clean, 0, x.ifPassed(1, 0));
                x.dirt(3, clean + 1);
                Check.same("a complaint with one more than " + clean, 1, x.ifPassed(1, 0));
            }
        });
        hasRange(1, "1: the pressure that flushing takes, 0 to 60, at first 15", () -> {
            HydrantRounds x = new HydrantRounds();
            x.send(0, 4);
            for (int needed : new int[] {0, 15, 60}) {
                x.set(1, needed);
                x.pressure(1, needed + 10);
                Check.same("just " + needed, 0, x.waits(0));
                x.pressure(1, needed + 9);
                Check.same("one less than " + needed, needed == 0 ? 0 : 2, x.waits(0));
            }
        });
        hasRange(2, "2: how well it flushes, 1 to 9, at first 2", () -> {
            HydrantRounds x = Sample.still();
            x.dirt(0, 999);
            x.send(0, 0);
            for (int factor : new int[] {1, 2, 9}) {
                x.set(2, factor);
                Check.same("30 times " + factor, 30 * factor, x.ifPassed(1, 1));
            }
        });
        hasRange(3, "3: dirt by the hour, 0 to 20, at first 1", () -> {
            HydrantRounds x = new HydrantRounds();
            for (int more : new int[] {0, 1, 20}) {
                x.set(3, more);
                int before = x.street(7, 0);
                x.pass(1);
                Check.same("more by " + more, before + more, x.street(7, 0));
            }
        });
    }
}
