/** What the tests of the project share: it counts checks and tells those that fail. */
final class Check {
    interface Call {
        Object answer();
    }

    private static int checks = 0;
    private static int wrong = 0;
    private static String about = "";

    private Check() {
    }

    /** What is told ahead of each check that fails from now on. */
    static void about(String text) {
        about = text;
    }

    static int made() {
        return checks;
    }

    static void same(String what, long due, long got) {
        told(due == got, what + " answered " + got + ", due is " + due);
    }

    static void same(String what, double due, double got) {
        told(due == got, what + " answered " + got + ", due is " + due);
    }

    static void isTrue(String what, boolean holds) {
        told(holds, what);
    }

    /** The call throws just this exception, and changes nothing that the digest tells. */
    static void refuses(HydrantRounds x, String what, Class<? extends RuntimeException> due, Call call) {
        long before = x.digest();
        told(due == thrownBy(call), what + " threw " + thrownBy(call) + ", due is " + due);
        told(before == x.digest(), what + " changed something");
    }

    static void refusesEach(HydrantRounds x, String what, Class<? extends RuntimeException> due, Edge.Call call,
            int... values) {
        for (int value : values) {
            refuses(x, what + " " + value, due, () -> call.on(x, value));
        }
    }

    /** The dirt of the streets from 0 on; the others are not looked at. */
    static void dirts(String what, HydrantRounds x, int... due) {
        for (int street = 0; street < due.length; street++) {
            same(what + ": dirt of " + street, due[street], x.street(street, 0));
        }
    }

    static Class<?> thrownBy(Call call) {
        try {
            call.answer();
            return null;
        } catch (RuntimeException e) {
            return e.getClass();
        }
    }

    /** An undoable call: it saves a state, also if it changes nothing, and undo brings back all but the buffer. */
    static void undoable(HydrantRounds x, String what, Call call) {
        int saved = x.count(8);
        Object before = Look.at(x);
        call.answer();
        same(what + " saves a state", Math.min(saved + 1, 6), x.count(8));
        x.undo();
        told(before.equals(Look.at(x)), what + " is not undone");
    }

    static void type(HydrantRounds x, String text) {
        for (char c : text.toCharArray()) {
            x.append(c);
        }
    }

    static void ends(String name) {
        System.out.println(name + ": " + checks + " checks, " + wrong + " wrong");
        if (wrong != 0) {
            System.exit(1);
        }
    }

    private static void told(boolean right, String message) {
        checks++;
        if (!right) {
            wrong++;
            System.out.println("WRONG: " + about + message);
        }
    }
}
