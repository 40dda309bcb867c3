/** Counts answers that are not the ones that are due. */
final class Check {
    private final String name;
    private int looked;
    private int wrong;

    Check(String name) {
        this.name = name;
    }

    void is(String call, long got, long due) {
        looked++;
        if (got != due) {
            tell(call + " answered " + got + ", due is " + due);
        }
    }

    void holds(String what, boolean isSo) {
        looked++;
        if (!isSo) {
            tell(what + " does not hold");
        }
    }

    void badArgument(String call, Runnable doing) {
        refuses(call, IllegalArgumentException.class, doing);
    }

    void badState(String call, Runnable doing) {
        refuses(call, IllegalStateException.class, doing);
    }

    private void refuses(String call, Class<?> due, Runnable doing) {
        looked++;
        String got = "nothing";
        try {
            doing.run();
        } catch (RuntimeException e) {
            if (e.getClass() == due) {
                return;
            }
            got = e.getClass().getSimpleName();
        }
        tell(call + " threw " + got + ", due is " + due.getSimpleName());
    }

    private void tell(String text) {
        wrong++;
        System.out.println(name + ": " + text);
    }

    void end() {
        System.out.println(name + ": " + looked + " answers looked at, " + wrong + " not as due");
        if (wrong != 0) {
            System.exit(1);
        }
    }
}
