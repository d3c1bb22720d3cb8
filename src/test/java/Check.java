/** What the tests of the project share: it counts checks and tells those that fail. */
final class Check {
    interface Call {
        Object answer();
    }

    private static int checks = 0;
    private static int wrong = 0;

    private Check() {
    }

    static void same(String what, long due, long got) {
        told(due == got, what + " answered " + got + ", due is " + due);
    }

    static void same(String what, double due, double got) {
        told(due == got, what + " answered " + got + ", due is " + due);
    }

    static void isTrue(String what, boolean holds) {
        told(holds, what);
    }

    /** The call throws just this exception, and changes nothing that the digest tells. */
    static void refuses(HydrantRounds x, String what, Class<? extends RuntimeException> due, Call call) {
        long before = x.digest();
        told(due == thrownBy(call), what + " threw " + thrownBy(call) + ", due is " + due);
        told(before == x.digest(), what + " changed something");
    }

    static Class<?> thrownBy(Call call) {
        try {
            call.answer();
            return null;
        } catch (RuntimeException e) {
            return e.getClass();
        }
    }

    /** An undoable call: it saves a state, also if it changes nothing, and undo brings back all but the buffer. */
    static void undoable(HydrantRounds x, String what, Call call) {
        int saved = x.count(8);
        Object before = Look.at(x);
        call.answer();
        same(what + " saves a state", Math.min(saved + 1, 6), x.count(8));
        x.undo();
        told(before.equals(Look.at(x)), what + " is not undone");
    }

    static void type(HydrantRounds x, String text) {
        for (char c : text.toCharArray()) {
            x.append(c);
        }
    }

    static void ends(String name) {
        System.out.println(name + ": " + checks + " checks, " + wrong + " wrong");
        if (wrong != 0) {
            System.exit(1);
        }
    }

    private static void told(boolean right, String message) {
        checks++;
        if (!right) {
            wrong++;
            System.out.println("WRONG: " + message);
        }
    }
}
