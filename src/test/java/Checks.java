/** Counts the answers that are not as due, and prints each of them. */
final class Checks {
    private int made;
    private int wrong;

    void due(String call, long want, long got) {
        made++;
        if (got != want) {
            tell(call + " answered " + got + ", due is " + want);
        }
    }

    void holds(String what, boolean right) {
        made++;
        if (!right) {
            tell("does not hold: " + what);
        }
    }

    /** A call is due to throw just this exception, no class below it. */
    void refused(String call, Class<? extends RuntimeException> want, Runnable body) {
        made++;
        try {
            body.run();
        } catch (RuntimeException e) {
            if (e.getClass() != want) {
                tell(call + " threw " + e.getClass().getName() + ", due is " + want.getName());
            }
            return;
        }
        tell(call + " threw nothing, due is " + want.getName());
    }

    void noIndex(String call, Runnable body) {
        refused(call, IndexOutOfBoundsException.class, body);
    }

    void noArgument(String call, Runnable body) {
        refused(call, IllegalArgumentException.class, body);
    }

    void noState(String call, Runnable body) {
        refused(call, IllegalStateException.class, body);
    }

    void tell(String fault) {
        wrong++;
        if (wrong <= 50) {
            System.out.println(fault);
        }
    }

    void end() {
        System.out.println(made + " answers looked at, " + wrong + " not as due");
        if (wrong != 0) {
            System.exit(1);
        }
    }
}
