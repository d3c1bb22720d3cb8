/** Promise 9, pass: each step of an hour. */
final class HourTest {
    public static void main(String[] args) {
        opensAndFlushes();
        flushesWithAllOpenHydrants();
        keepsOpenWhatALaterCrewWeakens();
        weakensTheZoneBehindAValve();
        waitsAndCountsIt();
        takesTheStreetOutWhateverFollows();
        leavesTheStreetInOtherRounds();
        carriesByDescendingNumbers();
        carriesThroughOpenValvesAlone();
        losesWhatIsAboveTheLimit();
        complains();
        remembersBrownOfTheHourBefore();
        manyHours();
        wrongHours();
        Check.ends("HourTest");
    }

    private static void opensAndFlushes() {
        HydrantRounds x = new HydrantRounds();
        x.dirt(0, 100);
        x.send(0, 0);
        Check.same("pass(1)", 1, x.pass(1));
        Check.dirts("30 times 2 flushed", x, 41, 1, 1, 1, 1);
        Check.same("flushed of 0", 60, x.street(0, 6));
        Check.same("hours open of 0", 1, x.street(0, 7));
        Check.same("it stays in the round", 0, x.round(0, 0));
        Check.same("the rest of it", 0, x.pass(1));
        Check.same("flushed of 0 then", 101, x.street(0, 6));
        Check.same("hours open of 0 then", 2, x.street(0, 7));
        Check.same("flushed in all", 101, x.count(4));
        Check.same("it is out of the round", -1, x.round(0, 0));
        Check.same("dirt by the hour", 1, x.street(0, 0));
        Check.same("hours", 2, x.count(0));
        x.pass(1);
        Check.same("its hydrant is shut", 2, x.street(0, 7));
        x.set(2, 1);
        x.dirt(6, 29);
        x.send(2, 6);
        x.pass(1);
        Check.same("28 times 1", 28, x.street(6, 6));
        Check.same("dirt left keeps it in the round", 6, x.round(2, 0));
        Check.same("dirt left", 2, x.street(6, 0));
    }

    private static void flushesWithAllOpenHydrants() {
        HydrantRounds x = new HydrantRounds();
        x.dirt(0, 999);
        x.dirt(5, 999);
        x.dirt(6, 999);
        x.hydrant(6, 7);
        x.send(0, 6);
        x.send(1, 0);
        x.send(2, 5);
        Check.same("6 waits for clean water", 3, x.waits(0));
        x.dirt(5, 20);
        Check.same("6 works", 0, x.waits(0));
        Check.same("5 works", 0, x.waits(2));
        x.pass(1);
        Check.same("zone 0 has its own", 60, x.street(0, 6));
        Check.same("40 - 2 - 17, times 2", 42, x.street(6, 6));
        Check.same("5 had 20 alone", 20, x.street(5, 6));
    }

    private static void keepsOpenWhatALaterCrewWeakens() {
        HydrantRounds x = new HydrantRounds();
        x.pressure(0, 36);
        x.dirt(3, 999);
        x.send(0, 3);
        x.send(1, 0);
        x.dirt(0, 10);
        Check.same("crew 0", 0, x.waits(0));
        Check.same("crew 1", 0, x.waits(1));
        x.pass(1);
        Check.same("36 - 3 - 20, times 2", 26, x.street(3, 6));
        Check.same("open for the hour", 1, x.street(3, 7));
        Check.same("nobody waited", 0, x.count(5));
    }

    private static void weakensTheZoneBehindAValve() {
        HydrantRounds x = new HydrantRounds();
        x.valve(0, true);
        x.valve(1, true);
        x.dirt(0, 5);
        x.dirt(8, 900);
        x.send(0, 0);
        x.send(1, 8);
        x.pass(1);
        Check.same("40 - 3 - 10, times 2", 54, x.street(8, 6));
        HydrantRounds y = new HydrantRounds();
        y.pressure(0, 27);
        y.valve(0, true);
        y.send(1, 4);
        Check.same("alone", 0, y.waits(1));
        y.send(0, 0);
        Check.same("behind an open hydrant", 2, y.waits(1));
    }

    private static void waitsAndCountsIt() {
        HydrantRounds x = new HydrantRounds();
        x.dirt(4, 999);
        x.send(0, 4);
        x.send(1, 4);
        x.send(2, 5);
        Check.same("pass(1)", 1, x.pass(1));
        Check.same("two waited", 2, x.count(5));
        Check.same("one flushed", 60, x.street(4, 6));
        Check.same("one hour open", 1, x.street(4, 7));
        Check.same("5 was not open", 0, x.street(5, 7));
        x.skip(1);
        x.skip(2);
        x.pass(1);
        Check.same("resting is no waiting", 2, x.count(5));
        HydrantRounds y = new HydrantRounds();
        y.dirt(4, 999);
        y.send(0, 5);
        y.pressure(2, 0);
        y.send(1, 8);
        y.send(2, 0);
        y.pass(3);
        Check.same("for brown water and for pressure", 6, y.count(5));
    }

    private static void takesTheStreetOutWhateverFollows() {
        HydrantRounds x = new HydrantRounds();
        x.set(3, 20);
        x.dirt(0, 20);
        x.dirt(1, 5);
        x.send(0, 1);
        x.send(0, 1);
        x.pass(1);
        Check.dirts("flushed to 0, then dirt comes", x, 38, 22, 20, 20);
        Check.same("flushed of 1", 5, x.street(1, 6));
        Check.same("one is out", 1, x.count(6));
        HydrantRounds y = new HydrantRounds();
        y.send(1, 9);
        y.pass(1);
        Check.same("a street without dirt is out, too", -1, y.round(1, 0));
        Check.same("it was open", 1, y.street(9, 7));
        y.set(1, 0);
        y.pressure(0, 0);
        y.dirt(0, 1);
        y.send(1, 0);
        y.pass(48);
        Check.same("no pressure flushes nothing", 0, y.round(1, 0));
        Check.same("it was open all the time", 48, y.street(0, 7));
    }

    private static void leavesTheStreetInOtherRounds() {
        HydrantRounds x = new HydrantRounds();
        x.dirt(2, 10);
        x.send(0, 2);
        x.send(0, 6);
        x.send(1, 2);
        x.pass(1);
        Check.same("crew 0 goes on", 6, x.round(0, 0));
        Check.same("crew 1 has it still", 2, x.round(1, 0));
        Check.same("crew 1 would work", 0, x.waits(1));
    }

    private static void carriesByDescendingNumbers() {
        HydrantRounds x = new HydrantRounds();
        x.set(3, 0);
        x.set(0, 99);
        x.dirt(0, 99);
        x.dirt(1, 99);
        x.dirt(2, 9);
        x.pass(1);
        Check.dirts("a tenth goes on", x, 90, 99, 18, 0);
        HydrantRounds y = new HydrantRounds();
        y.dirt(0, 20);
        y.dirt(1, 100);
        y.send(0, 1);
        y.pass(1);
        Check.dirts("an open hydrant sends nothing, but gets some", y, 19, 45, 1, 1);
    }

    private static void carriesThroughOpenValvesAlone() {
        HydrantRounds x = new HydrantRounds();
        x.set(3, 0);
        x.dirt(3, 100);
        x.dirt(7, 100);
        x.dirt(11, 100);
        x.pass(1);
        Check.dirts("both shut", x, 0, 0, 0, 100, 0, 0, 0, 100, 0, 0, 0, 100);
        x.valve(0, true);
        x.pass(1);
        Check.dirts("valve 0 open", x, 0, 0, 0, 90, 10, 0, 0, 100, 0, 0, 0, 100);
        x.valve(0, false);
        x.valve(1, true);
        x.dirt(4, 0);
        x.pass(1);
        Check.dirts("valve 1 open", x, 0, 0, 0, 90, 0, 0, 0, 90, 10, 0, 0, 100);
    }

    private static void losesWhatIsAboveTheLimit() {
        HydrantRounds x = new HydrantRounds();
        x.set(3, 20);
        x.dirt(2, 999);
        x.dirt(3, 990);
        x.pass(1);
        Check.dirts("990 + 99 + 20", x, 20, 20, 920, 999);
        Check.same("lost", 110, x.count(7));
        x.set(3, 0);
        x.pass(1);
        Check.same("lost 92 more", 202, x.count(7));
        Check.same("at the limit", 999, x.street(3, 0));
    }

    private static void complains() {
        HydrantRounds x = new HydrantRounds();
        x.dirt(3, 19);
        x.dirt(11, 20);
        Check.same("20 is not brown, 21 is", 1, x.pass(1));
        Check.same("complaints of 3", 0, x.street(3, 5));
        Check.same("complaints of 11", 1, x.street(11, 5));
        Check.same("a second hour is worse", 3, x.pass(1));
        Check.same("complaints of 3 then", 1, x.street(3, 5));
        Check.same("complaints of 11 then", 3, x.street(11, 5));
        Check.same("all", 4, x.count(3));
        Check.same("two brown hours more", 8, x.pass(2));
        Check.same("all then", 12, x.count(3));
    }

    private static void remembersBrownOfTheHourBefore() {
        HydrantRounds x = new HydrantRounds();
        x.dirt(7, 50);
        Check.same("none was brown ahead of the first hour", 1, x.pass(1));
        x.dirt(7, 0);
        x.dirt(7, 60);
        Check.same("brown at the end of the hour before", 2, x.pass(1));
        x.set(0, 99);
        Check.same("not brown by the setting", 0, x.pass(1));
        x.set(0, 20);
        Check.same("not brown at the end of the hour before", 1, x.pass(1));
    }

    private static void manyHours() {
        HydrantRounds one = new HydrantRounds();
        HydrantRounds many = new HydrantRounds();
        for (HydrantRounds x : new HydrantRounds[] {one, many}) {
            x.dirt(0, 300);
            x.dirt(6, 700);
            x.valve(0, true);
            Check.type(x, "a0,1,2;b6,7");
            x.rounds();
        }
        int complaints = 0;
        for (int hour = 0; hour < 48; hour++) {
            complaints += one.pass(1);
        }
        Check.same("saved states of many calls", 6, one.count(8));
        Check.same("pass(48)", complaints, many.pass(48));
        Check.same("saved states of one call", 5, many.count(8));
        Check.isTrue("the same state", Look.at(one).equals(Look.at(many)));
        Check.same("hours", 48, many.count(0));
        Check.undoable(many, "pass(48)", () -> many.pass(48));
        many.undo();
        Check.same("undone as one call", 0, many.count(0));
        Check.same("dirt of 6 again", 700, many.street(6, 0));
    }

    private static void wrongHours() {
        HydrantRounds x = new HydrantRounds();
        for (int hours : new int[] {0, -1, 49, Integer.MIN_VALUE, Integer.MAX_VALUE}) {
            Check.refuses(x, "pass(" + hours + ")", IllegalArgumentException.class, () -> x.pass(hours));
        }
    }
}
