/** Promises 6 to 8: send, skip, set. */
final class CrewsTest {
    public static void main(String[] args) {
        send();
        skip();
        set();
        Check.ends("CrewsTest");
    }

    /** Promise 6. */
    private static void send() {
        HydrantRounds x = new HydrantRounds();
        for (int place = 0; place < 8; place++) {
            Check.same("send " + place, place + 1, x.send(0, 11 - place));
        }
        for (int place = 0; place < 8; place++) {
            Check.same("round at " + place, 11 - place, x.round(0, place));
        }
        Check.refuses(x, "a ninth street", IllegalStateException.class, () -> x.send(0, 1));
        Check.refuses(x, "no street for a full round", IndexOutOfBoundsException.class, () -> x.send(0, 12));
        Check.same("send(2, 5)", 1, x.send(2, 5));
        Check.same("the same street again", 2, x.send(2, 5));
        Check.same("round 2 at 1", 5, x.round(2, 1));
        Check.same("send(1, 0)", 1, x.send(1, 0));
        Check.same("all streets", 11, x.count(6));
        Check.undoable(x, "send(1, 4)", () -> x.send(1, 4));
        for (int wrong : new int[] {-1, 12, Integer.MIN_VALUE, Integer.MAX_VALUE}) {
            Check.refuses(x, "crew " + wrong, IndexOutOfBoundsException.class, () -> x.send(wrong, 0));
            Check.refuses(x, "street " + wrong, IndexOutOfBoundsException.class, () -> x.send(1, wrong));
        }
        Check.refuses(x, "crew 3", IndexOutOfBoundsException.class, () -> x.send(3, 0));
    }

    /** Promise 7. */
    private static void skip() {
        HydrantRounds x = new HydrantRounds();
        Check.same("skip without a street", -1, x.skip(0));
        Check.same("it saves a state all the same", 1, x.count(8));
        x.send(0, 7);
        x.send(0, 3);
        x.send(0, 7);
        x.send(1, 2);
        Check.same("skip(0)", 7, x.skip(0));
        Check.same("first then", 3, x.round(0, 0));
        Check.same("second then", 7, x.round(0, 1));
        Check.same("third then", -1, x.round(0, 2));
        Check.same("another crew's", 2, x.round(1, 0));
        Check.undoable(x, "skip(0)", () -> x.skip(0));
        Check.undoable(x, "skip(2)", () -> x.skip(2));
        Check.same("skip(0) again", 3, x.skip(0));
        Check.same("skip(0) the last", 7, x.skip(0));
        Check.same("skip(0) of none", -1, x.skip(0));
        Check.same("streets left", 1, x.count(6));
        for (int crew : new int[] {-1, 3, Integer.MIN_VALUE, Integer.MAX_VALUE}) {
            Check.refuses(x, "skip " + crew, IndexOutOfBoundsException.class, () -> x.skip(crew));
        }
    }

    /** Promise 8. */
    private static void set() {
        HydrantRounds x = new HydrantRounds();
        int[] first = {20, 15, 2, 1};
        int[] least = {0, 0, 1, 0};
        int[] most = {99, 60, 9, 20};
        for (int i = 0; i < 4; i++) {
            int setting = i;
            Check.same("set to its most", first[i], x.set(i, most[i]));
            Check.same("setting", most[i], x.setting(i));
            Check.same("set to its least", most[i], x.set(i, least[i]));
            Check.same("set to its least again", least[i], x.set(i, least[i]));
            Check.same("setting", least[i], x.setting(i));
            Check.undoable(x, "set", () -> x.set(setting, most[setting]));
            Check.undoable(x, "set as it is", () -> x.set(setting, least[setting]));
            for (int value : new int[] {least[i] - 1, most[i] + 1, Integer.MIN_VALUE, Integer.MAX_VALUE}) {
                Check.refuses(x, "set " + i, IllegalArgumentException.class, () -> x.set(setting, value));
            }
        }
        for (int setting : new int[] {-1, 4, Integer.MIN_VALUE, Integer.MAX_VALUE}) {
            Check.refuses(x, "set " + setting, IndexOutOfBoundsException.class, () -> x.set(setting, 5));
            Check.refuses(x, "both wrong", IndexOutOfBoundsException.class, () -> x.set(setting, -1));
        }
    }
}
