/** Compares answers with those that are due, prints what differs, and ends a test with its exit code. */
final class Check {
    private int checks;
    private int wrong;

    interface Call {
        long answer();
    }

    void is(String what, long got, long due) {
        checks++;
        if (got != due) {
            fail(what + " answered " + got + ", due is " + due);
        }
    }

    /** The exception's class must be the very one that is due, not one below it. */
    void fails(String what, Class<? extends RuntimeException> due, Call call) {
        checks++;
        try {
            long got = call.answer();
            fail(what + " answered " + got + ", due is " + due.getSimpleName());
        } catch (RuntimeException e) {
            if (e.getClass() != due) {
                fail(what + " threw " + e.getClass().getSimpleName() + ", due is " + due.getSimpleName());
            }
        }
    }

    void refused(String what, Call call) {
        fails(what, IllegalArgumentException.class, call);
    }

    void badState(String what, Call call) {
        fails(what, IllegalStateException.class, call);
    }

    void outside(String what, Call call) {
        fails(what, IndexOutOfBoundsException.class, call);
    }

    /** The whole walk, and that it ends there. */
    void walk(String what, NearTree tree, int... due) {
        is(what + ": nodes", tree.count(2), due.length);
        for (int k = 0; k < due.length && k < tree.count(2); k++) {
            is(what + ": walk(" + k + ")", tree.walk(k), due[k]);
        }
        outside(what + ": walk behind the last", () -> tree.walk(due.length));
    }

    /** All of THE LIST, and that it ends there. */
    void list(String what, NearTree tree, int... due) {
        for (int i = 0; i < due.length; i++) {
            int place = i;
            try {
                is(what + ": listed(" + i + ")", tree.listed(place), due[i]);
            } catch (IndexOutOfBoundsException e) {
                fail(what + ": listed(" + i + ") is outside, due is " + due[i]);
            }
        }
        outside(what + ": listed behind the last", () -> tree.listed(due.length));
        outside(what + ": distance behind the last", () -> tree.distance(due.length));
    }

    void fail(String text) {
        wrong++;
        if (wrong <= 50) {
            System.out.println(text);
        }
    }

    void end() {
        System.out.println(checks + " checks, " + wrong + " wrong");
        if (wrong != 0 || checks == 0) {
            System.exit(1);
        }
    }
}
