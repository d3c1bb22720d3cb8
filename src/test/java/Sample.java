/** Objects that tests begin with. */
final class Sample {
    private Sample() {
    }

    /** No dirt comes by the hour: what an hour changes is told by its other steps alone. */
    static HydrantRounds still() {
        HydrantRounds x = new HydrantRounds();
        x.set(3, 0);
        return x;
    }

    static HydrantRounds typed(String text) {
        HydrantRounds x = new HydrantRounds();
        Check.type(x, text);
        return x;
    }

    /** Rounds that are given as a text. */
    static void give(HydrantRounds x, String text) {
        x.clearBuffer();
        Check.type(x, text);
        x.rounds();
    }

    /** Something of everything: dirt, an open valve, rounds, hours, a buffer, and one saved state less than most. */
    static HydrantRounds busy() {
        HydrantRounds x = new HydrantRounds();
        x.dirt(5, 300);
        x.dirt(11, 999);
        x.valve(1, true);
        give(x, "a5,6;b5;c10,11,1");
        x.pass(2);
        Check.type(x, "a1,2;b");
        return x;
    }
}
