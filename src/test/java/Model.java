import java.util.ArrayList;
import java.util.List;
import java.util.regex.Matcher;
import java.util.regex.Pattern;

/** The document once more, written another way and with the whole library, to hold the class against. */
final class Model {
    private static final String STREET = "(?:1[01]|[0-9])";
    private static final String PART = "[abc]" + STREET + "(?:," + STREET + "){0,7}";
    private static final Pattern ROUNDS = Pattern.compile(PART + "(?:;" + PART + ")*");

    private static final class Street {
        int dirt;
        int takes = 10;
        boolean wasBrown;
        int complaints;
        int flushed;
        int hoursOpen;

        Street copy() {
            Street s = new Street();
            s.dirt = dirt;
            s.takes = takes;
            s.wasBrown = wasBrown;
            s.complaints = complaints;
            s.flushed = flushed;
            s.hoursOpen = hoursOpen;
            return s;
        }
    }

    private static final class World {
        int[] zones = {40, 40, 40};
        boolean[] valves = {false, false};
        int[] settings = {20, 15, 2, 1};
        List<Street> streets = new ArrayList<>();
        List<List<Integer>> rounds = new ArrayList<>();
        int hours;
        int waited;
        int lost;

        World copy() {
            World w = new World();
            w.zones = zones.clone();
            w.valves = valves.clone();
            w.settings = settings.clone();
            for (Street s : streets) {
                w.streets.add(s.copy());
            }
            for (List<Integer> r : rounds) {
                w.rounds.add(new ArrayList<>(r));
            }
            w.hours = hours;
            w.waited = waited;
            w.lost = lost;
            return w;
        }

        boolean brown(int street) {
            return streets.get(street).dirt > settings[0];
        }

        int browns() {
            return (int) java.util.stream.IntStream.range(0, 12).filter(this::brown).count();
        }

        Integer source(int street) {
            if (street % 4 > 0 || street > 0 && valves[street / 4 - 1]) {
                return street - 1;
            }
            return null;
        }

        int pressure(int street, List<Integer> open) {
            int zone = street / 4;
            int own = zones[zone] - street % 4;
            for (int other : open) {
                if (other / 4 == zone) {
                    own -= streets.get(other).takes;
                }
            }
            if (zone > 0 && valves[zone - 1]) {
                own = Math.min(own, pressure(4 * zone - 1, open));
            }
            return Math.max(0, own);
        }

        /** Reasons by crew: null for a crew that rests. The open streets are put into the list. */
        List<Integer> reasons(List<Integer> open) {
            List<Integer> reasons = new ArrayList<>();
            for (List<Integer> round : rounds) {
                if (round.isEmpty()) {
                    reasons.add(null);
                    continue;
                }
                int street = round.get(0);
                List<Integer> with = new ArrayList<>(open);
                with.add(street);
                Integer source = source(street);
                int reason = 0;
                if (source != null && brown(source)) {
                    reason = 3;
                }
                if (pressure(street, with) < settings[1]) {
                    reason = 2;
                }
                if (open.contains(street)) {
                    reason = 1;
                }
                if (reason == 0) {
                    open.add(street);
                }
                reasons.add(reason);
            }
            return reasons;
        }

        int passHour() {
            List<Integer> open = new ArrayList<>();
            List<Integer> reasons = reasons(open);
            List<List<Integer>> finished = new ArrayList<>();
            for (int crew = 0; crew < 3; crew++) {
                Integer reason = reasons.get(crew);
                if (reason == null) {
                    continue;
                }
                if (reason > 0) {
                    waited++;
                    continue;
                }
                int number = rounds.get(crew).get(0);
                Street street = streets.get(number);
                int before = street.dirt;
                street.dirt = Math.max(0, before - pressure(number, open) * settings[2]);
                street.flushed += before - street.dirt;
                street.hoursOpen++;
                if (street.dirt == 0) {
                    finished.add(rounds.get(crew));
                }
            }
            int[] dirt = new int[12];
            int[] more = new int[12];
            for (int s = 0; s < 12; s++) {
                dirt[s] = streets.get(s).dirt;
                Integer target = s < 11 && Integer.valueOf(s).equals(source(s + 1)) ? s + 1 : null;
                if (target != null && !open.contains(s)) {
                    more[target] += dirt[s] / 10;
                    more[s] -= dirt[s] / 10;
                }
            }
            int complaints = 0;
            for (int s = 0; s < 12; s++) {
                Street street = streets.get(s);
                street.dirt = limited(limited(dirt[s] + more[s]) + settings[3]);
                int bad = !brown(s) ? 0 : street.wasBrown ? 2 : 1;
                street.complaints += bad;
                complaints += bad;
                street.wasBrown = brown(s);
            }
            finished.forEach(round -> round.remove(0));
            hours++;
            return complaints;
        }

        int limited(int dirt) {
            lost += Math.max(0, dirt - 999);
            return Math.min(dirt, 999);
        }

        int passHours(int many) {
            int complaints = 0;
            for (int i = 0; i < many; i++) {
                complaints += passHour();
            }
            return complaints;
        }

        int inRounds() {
            return rounds.stream().mapToInt(List::size).sum();
        }

        int flushed() {
            return streets.stream().mapToInt(s -> s.flushed).sum();
        }
    }

    private World now = new World();
    private final List<World> saved = new ArrayList<>();
    private String buffer = "";

    Model() {
        for (int s = 0; s < 12; s++) {
            now.streets.add(new Street());
        }
        for (int c = 0; c < 3; c++) {
            now.rounds.add(new ArrayList<>());
        }
    }

    private void index(int index, int length) {
        if (index < 0 || index >= length) {
            throw new IndexOutOfBoundsException();
        }
    }

    private void argument(boolean right) {
        if (!right) {
            throw new IllegalArgumentException();
        }
    }

    private void state(boolean right) {
        if (!right) {
            throw new IllegalStateException();
        }
    }

    private void save() {
        saved.add(now.copy());
        if (saved.size() > 6) {
            saved.remove(0);
        }
    }

    /** Any call of the face by its name. */
    Object call(String name, int a, int b) {
        switch (name) {
            case "pressure":
            case "valve":
            case "dirt":
            case "hydrant":
            case "set":
                return change(name, a, b);
            case "send":
                index(a, 3);
                index(b, 12);
                state(now.rounds.get(a).size() < 8);
                save();
                now.rounds.get(a).add(b);
                return now.rounds.get(a).size();
            case "skip":
                index(a, 3);
                save();
                return now.rounds.get(a).isEmpty() ? -1 : now.rounds.get(a).remove(0);
            case "pass":
                argument(a >= 1 && a <= 48);
                save();
                return now.passHours(a);
            case "append":
                argument(a >= 33 && a <= 126);
                state(buffer.length() < 60);
                buffer += (char) a;
                return buffer.length();
            case "clearBuffer":
                int length = buffer.length();
                buffer = "";
                return length;
            case "firstError":
                return firstError();
            case "rounds":
                return rounds();
            case "undo":
                state(!saved.isEmpty());
                now = saved.remove(saved.size() - 1);
                return saved.size();
            default:
                return look(name, a, b);
        }
    }

    private int change(String name, int a, int b) {
        int[] least = {0, 0, 1, 0};
        int[] most = {99, 60, 9, 20};
        int before;
        switch (name) {
            case "pressure":
                index(a, 3);
                argument(b >= 0 && b <= 99);
                save();
                before = now.zones[a];
                now.zones[a] = b;
                return before;
            case "valve":
                index(a, 2);
                save();
                before = now.valves[a] ? 1 : 0;
                now.valves[a] = b != 0;
                return before;
            case "dirt":
                index(a, 12);
                argument(b >= 0 && b <= 999);
                save();
                before = now.streets.get(a).dirt;
                now.streets.get(a).dirt = b;
                return before;
            case "hydrant":
                index(a, 12);
                argument(b >= 1 && b <= 30);
                save();
                before = now.streets.get(a).takes;
                now.streets.get(a).takes = b;
                return before;
            default:
                index(a, 4);
                argument(b >= least[a] && b <= most[a]);
                save();
                before = now.settings[a];
                now.settings[a] = b;
                return before;
        }
    }

    private int firstError() {
        for (int end = 1; end <= buffer.length(); end++) {
            Matcher matcher = ROUNDS.matcher(buffer.substring(0, end));
            if (!matcher.matches() && !matcher.hitEnd()) {
                return end - 1;
            }
        }
        return buffer.length();
    }

    private int rounds() {
        argument(ROUNDS.matcher(buffer).matches());
        save();
        for (String part : buffer.split(";")) {
            List<Integer> round = new ArrayList<>();
            for (String street : part.substring(1).split(",")) {
                round.add(Integer.parseInt(street));
            }
            now.rounds.set(part.charAt(0) - 'a', round);
        }
        buffer = "";
        return now.inRounds();
    }

    private Object look(String name, int a, int b) {
        switch (name) {
            case "street":
                index(a, 12);
                argument(b >= 0 && b <= 7);
                return streetNumber(a, b);
            case "round":
                index(a, 3);
                argument(b >= 0);
                return b < now.rounds.get(a).size() ? now.rounds.get(a).get(b) : -1;
            case "count":
                argument(a >= 0 && a <= 8);
                return counted(a);
            case "setting":
                index(a, 4);
                return now.settings[a];
            case "waits":
                index(a, 3);
                Integer reason = now.reasons(new ArrayList<>()).get(a);
                return reason == null ? -1 : reason;
            case "ifPassed":
                argument(a >= 1 && a <= 48 && b >= 0 && b <= 3);
                World later = now.copy();
                int complaints = later.passHours(a);
                return new int[] {complaints, later.flushed() - now.flushed(), later.browns(), later.inRounds()}[b];
            case "bestStreet":
                return bestStreet();
            case "clearIn":
                return clearIn();
            case "leastPressure":
                index(a, 12);
                return leastPressure(a);
            case "cleanShare":
                return (12.0 - now.browns()) / 12.0;
            case "digest":
                return digest();
            default:
                throw new AssertionError(name);
        }
    }

    private int streetNumber(int number, int what) {
        Street s = now.streets.get(number);
        Integer source = now.source(number);
        return new int[] {s.dirt, s.takes, now.brown(number) ? 1 : 0, now.pressure(number, List.of()),
            source == null ? -1 : source, s.complaints, s.flushed, s.hoursOpen}[what];
    }

    private int counted(int what) {
        return new int[] {now.hours, now.streets.stream().mapToInt(s -> s.dirt).sum(), now.browns(),
            now.streets.stream().mapToInt(s -> s.complaints).sum(), now.flushed(), now.waited, now.inRounds(), now.lost,
            saved.size()}[what];
    }

    private int bestStreet() {
        int[] complaints = new int[12];
        for (int s = 0; s < 12; s++) {
            World trial = now.copy();
            trial.rounds.forEach(List::clear);
            trial.rounds.get(0).add(s);
            complaints[s] = trial.passHours(12);
        }
        int best = 11;
        for (int s = 11; s >= 0; s--) {
            best = complaints[s] <= complaints[best] ? s : best;
        }
        return best;
    }

    private int clearIn() {
        World trial = now.copy();
        int hours = 0;
        while (trial.browns() > 0) {
            if (hours == 200) {
                return -1;
            }
            trial.passHour();
            hours++;
        }
        return hours;
    }

    private int leastPressure(int street) {
        int needed = now.settings[1];
        int zone = street / 4;
        if (needed == 0) {
            return 0;
        }
        if (zone > 0 && now.valves[zone - 1] && now.pressure(4 * zone - 1, List.of()) < needed) {
            return -1;
        }
        return needed + street % 4 + now.streets.get(street).takes;
    }

    private long digest() {
        List<Object> values = new ArrayList<>();
        for (int what = 0; what <= 8; what++) {
            values.add(counted(what));
        }
        for (int setting : now.settings) {
            values.add(setting);
        }
        for (int zone : now.zones) {
            values.add(zone);
        }
        for (boolean valve : now.valves) {
            values.add(valve ? 1 : 0);
        }
        for (int s = 0; s < 12; s++) {
            for (int what = 0; what < 8; what++) {
                values.add(streetNumber(s, what));
            }
            values.add(now.streets.get(s).wasBrown ? 1 : 0);
            values.add(leastPressure(s));
        }
        for (int crew = 0; crew < 3; crew++) {
            values.add(look("waits", crew, 0));
            values.addAll(now.rounds.get(crew));
        }
        for (int what = 0; what < 4; what++) {
            values.add(look("ifPassed", 6, what));
        }
        values.add(bestStreet());
        values.add(clearIn());
        values.add(Double.doubleToLongBits((Double) look("cleanShare", 0, 0)));
        values.add(buffer.length());
        for (char c : buffer.toCharArray()) {
            values.add((int) c);
        }
        long hash = 3169;
        for (Object value : values) {
            hash = 31 * hash + ((Number) value).longValue();
        }
        return hash;
    }
}
