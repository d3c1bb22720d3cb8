import java.util.Random;

/** All promises: long runs of calls, right and wrong ones, each answer held against the model's. */
final class ModelTest {
    private static final String[] NAMES = {"pressure", "valve", "dirt", "hydrant", "send", "skip", "set", "pass",
        "append", "clearBuffer", "firstError", "rounds", "undo", "street", "round", "count", "setting", "waits",
        "ifPassed", "bestStreet", "clearIn", "leastPressure", "cleanShare", "digest"};
    private static final int[] WEIGHTS = {20, 12, 40, 20, 40, 8, 20, 60, 30, 2, 10, 20, 25, 20, 20, 20, 4, 30, 20, 6, 6,
        20, 6, 12};
    private static final int RUNS = 250;
    private static final int CALLS = 512;

    public static void main(String[] args) {
        for (int run = 0; run < RUNS; run++) {
            play(new Random(7001L + run), run);
        }
        Check.ends("ModelTest");
    }

    private static void play(Random random, int run) {
        HydrantRounds x = new HydrantRounds();
        Model model = new Model();
        for (int call = 0; call < CALLS; call++) {
            String name = name(random);
            if (name.equals("rounds") && random.nextInt(3) > 0) {
                call += type(random, x, model);
            }
            int a = first(random, name);
            int b = second(random, name, a);
            Object due = answer(() -> model.call(name, a, b));
            Object got = answer(() -> call(x, name, a, b));
            Check.isTrue("run " + run + ", call " + call + ": " + name + "(" + a + ", " + b + ") answered " + got
                + ", due is " + due, due.equals(got));
        }
        Check.isTrue("digest behind run " + run, model.call("digest", 0, 0).equals(x.digest()));
    }

    private static Object answer(Check.Call call) {
        try {
            return call.answer();
        } catch (RuntimeException e) {
            return e.getClass().getName();
        }
    }

    private static String name(Random random) {
        int total = 0;
        for (int weight : WEIGHTS) {
            total += weight;
        }
        int left = random.nextInt(total);
        int place = 0;
        while (left >= WEIGHTS[place]) {
            left -= WEIGHTS[place];
            place++;
        }
        return NAMES[place];
    }

    /** Types rounds, most of them right ones. */
    private static int type(Random random, HydrantRounds x, Model model) {
        x.clearBuffer();
        model.call("clearBuffer", 0, 0);
        StringBuilder text = new StringBuilder();
        int parts = 1 + random.nextInt(4);
        for (int part = 0; part < parts; part++) {
            text.append(part == 0 ? "" : ";").append((char) ('a' + random.nextInt(3)));
            int streets = 1 + random.nextInt(random.nextInt(4) == 0 ? 8 : 4);
            for (int street = 0; street < streets; street++) {
                text.append(street == 0 ? "" : ",").append(random.nextInt(12));
            }
        }
        if (random.nextInt(5) == 0) {
            text.setCharAt(random.nextInt(text.length()), (char) (33 + random.nextInt(94)));
        }
        for (int i = 0; i < text.length() && i < 60; i++) {
            x.append(text.charAt(i));
            model.call("append", text.charAt(i), 0);
        }
        return Math.min(text.length(), 60) + 1;
    }

    /** A number of the range, sometimes its ends or what lies beside them. */
    private static int within(Random random, int least, int most) {
        switch (random.nextInt(24)) {
            case 0:
                return least - 1;
            case 1:
                return most + 1;
            case 2:
                return least;
            case 3:
                return most;
            default:
                return least + random.nextInt(most - least + 1);
        }
    }

    private static int first(Random random, String name) {
        switch (name) {
            case "valve":
                return within(random, 0, 1);
            case "pressure":
            case "send":
            case "skip":
            case "round":
            case "waits":
                return within(random, 0, 2);
            case "set":
            case "setting":
                return within(random, 0, 3);
            case "count":
                return within(random, 0, 8);
            case "pass":
                return random.nextInt(3) > 0 ? 1 + random.nextInt(3) : within(random, 1, 48);
            case "ifPassed":
                return within(random, 1, 48);
            case "append":
                String likely = "abc0123456789,;11,,;";
                return random.nextInt(4) > 0 ? likely.charAt(random.nextInt(likely.length())) : within(random, 33, 126);
            default:
                return within(random, 0, 11);
        }
    }

    private static int second(Random random, String name, int a) {
        int[] least = {0, 0, 1, 0};
        int[] most = {99, 60, 9, 20};
        switch (name) {
            case "valve":
                return random.nextInt(2);
            case "pressure":
                return random.nextInt(3) > 0 ? 25 + random.nextInt(40) : within(random, 0, 99);
            case "dirt":
                return random.nextInt(3) > 0 ? random.nextInt(120) : within(random, 0, 999);
            case "hydrant":
                return within(random, 1, 30);
            case "send":
                return within(random, 0, 11);
            case "set":
                return a < 0 || a > 3 ? random.nextInt(20) : within(random, least[a], most[a]);
            case "street":
                return within(random, 0, 7);
            case "round":
                return within(random, 0, 8);
            case "ifPassed":
                return within(random, 0, 3);
            default:
                return 0;
        }
    }

    private static Object call(HydrantRounds x, String name, int a, int b) {
        switch (name) {
            case "pressure": return x.pressure(a, b);
            case "valve": return x.valve(a, b != 0);
            case "dirt": return x.dirt(a, b);
            case "hydrant": return x.hydrant(a, b);
            case "send": return x.send(a, b);
            case "skip": return x.skip(a);
            case "set": return x.set(a, b);
            case "pass": return x.pass(a);
            case "append": return x.append(a);
            case "clearBuffer": return x.clearBuffer();
            case "firstError": return x.firstError();
            case "rounds": return x.rounds();
            case "undo": return x.undo();
            case "street": return x.street(a, b);
            case "round": return x.round(a, b);
            case "count": return x.count(a);
            case "setting": return x.setting(a);
            case "waits": return x.waits(a);
            case "ifPassed": return x.ifPassed(a, b);
            case "bestStreet": return x.bestStreet();
            case "clearIn": return x.clearIn();
            case "leastPressure": return x.leastPressure(a);
            case "cleanShare": return x.cleanShare();
            case "digest": return x.digest();
            default: throw new AssertionError(name);
        }
    }
}
