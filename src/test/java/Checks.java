/** Counts the answers that are not as due. Each test's main ends with finish. */
final class Checks {
    interface Call {
        long answer();
    }

    private static int made;
    private static int wrong;

    private Checks() {
    }

    static void same(String what, long got, long due) {
        made++;
        if (got != due) {
            fail(what + " answered " + got + ", due is " + due);
        }
    }

    static void same(String what, String got, String due) {
        made++;
        if (!got.equals(due)) {
            fail(what + " answered\n" + got + "\ndue is\n" + due);
        }
    }

    /** The exception's class is compared exactly: one of the machine's subclasses would be a fault. */
    static void raises(String what, Class<? extends RuntimeException> due, Call call) {
        made++;
        try {
            fail(what + " answered " + call.answer() + ", due is " + due.getSimpleName());
        } catch (RuntimeException e) {
            if (e.getClass() != due) {
                fail(what + " threw " + e + ", due is " + due.getSimpleName());
            }
        }
    }

    static void raisesIndex(String what, Call call) {
        raises(what, IndexOutOfBoundsException.class, call);
    }

    static void raisesArgument(String what, Call call) {
        raises(what, IllegalArgumentException.class, call);
    }

    static void raisesState(String what, Call call) {
        raises(what, IllegalStateException.class, call);
    }

    static void fail(String message) {
        wrong++;
        if (wrong <= 40) {
            System.out.println(message);
        }
    }

    static void finish() {
        System.out.println(made + " checks, " + wrong + " wrong");
        if (wrong > 0) {
            System.exit(1);
        }
    }
}
