import java.util.ArrayList;
import java.util.List;

/** The digest that is due, by what other calls answer, and by what only the test knows. */
final class Hash {
    private Hash() {
    }

    /** The zones' numbers: the pressures of the zones, then 1 for each valve that is open, otherwise 0. */
    static long of(HydrantRounds x, String buffer, int[] zones, boolean[] wasBrown) {
        List<Long> values = new ArrayList<>();
        for (int what = 0; what <= 8; what++) {
            values.add((long) x.count(what));
        }
        for (int setting = 0; setting < 4; setting++) {
            values.add((long) x.setting(setting));
        }
        for (int zone : zones) {
            values.add((long) zone);
        }
        for (int street = 0; street < 12; street++) {
            for (int what = 0; what < 8; what++) {
                values.add((long) x.street(street, what));
            }
            values.add(wasBrown[street] ? 1L : 0L);
            values.add((long) x.leastPressure(street));
        }
        for (int crew = 0; crew < 3; crew++) {
            values.add((long) x.waits(crew));
            for (int place = 0; x.round(crew, place) != -1; place++) {
                values.add((long) x.round(crew, place));
            }
        }
        for (int what = 0; what < 4; what++) {
            values.add((long) x.ifPassed(6, what));
        }
        values.add((long) x.bestStreet());
        values.add((long) x.clearIn());
        values.add(Double.doubleToLongBits(x.cleanShare()));
        values.add((long) buffer.length());
        for (char c : buffer.toCharArray()) {
            values.add((long) c);
        }
        long hash = 3169;
        for (long value : values) {
            hash = 31 * hash + value;
        }
        return hash;
    }
}
