import java.util.ArrayList;
import java.util.List;

/** All that can be looked at, but the buffer and the number of saved states, which undo leaves alone or lowers. */
final class Look {
    private Look() {
    }

    static List<Number> at(HydrantRounds x) {
        List<Number> seen = new ArrayList<>();
        for (int what = 0; what < 8; what++) {
            seen.add(x.count(what));
        }
        for (int setting = 0; setting < 4; setting++) {
            seen.add(x.setting(setting));
        }
        for (int street = 0; street < 12; street++) {
            for (int what = 0; what < 8; what++) {
                seen.add(x.street(street, what));
            }
            seen.add(x.leastPressure(street));
        }
        for (int crew = 0; crew < 3; crew++) {
            seen.add(x.waits(crew));
            for (int place = 0; place < 9; place++) {
                seen.add(x.round(crew, place));
            }
        }
        for (int what = 0; what < 4; what++) {
            seen.add(x.ifPassed(1, what));
            seen.add(x.ifPassed(7, what));
        }
        seen.add(x.bestStreet());
        seen.add(x.clearIn());
        seen.add(x.cleanShare());
        return seen;
    }
}
