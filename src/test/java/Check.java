/** Counts what is due and what is not, for the tests, each of which is a class with a main method. */
final class Check {
    private static int right = 0;
    private static int wrong = 0;

    interface Call {
        void run();
    }

    private Check() {
    }

    static void same(String what, long got, long want) {
        if (got == want) {
            right++;
        } else {
            miss(what + ": got " + got + ", due is " + want);
        }
    }

    static void holds(String what, boolean it) {
        if (it) {
            right++;
        } else {
            miss(what);
        }
    }

    /** The call throws just this exception, and nothing that can be asked is another one then. */
    static void refuses(String what, Class<? extends RuntimeException> due, EmpireTurns game, Call call) {
        String before = Snapshot.of(game);
        RuntimeException thrown = null;
        try {
            call.run();
        } catch (RuntimeException e) {
            thrown = e;
        }
        if (thrown == null || thrown.getClass() != due) {
            miss(what + ": threw " + thrown + ", due is " + due.getName());
        } else if (!before.equals(Snapshot.of(game))) {
            miss(what + ": threw, but changed something");
        } else {
            right++;
        }
    }

    static void badState(String what, EmpireTurns game, Call call) {
        refuses(what, IllegalStateException.class, game, call);
    }

    static void badArgument(String what, EmpireTurns game, Call call) {
        refuses(what, IllegalArgumentException.class, game, call);
    }

    static void nothingThere(String what, EmpireTurns game, Call call) {
        refuses(what, IndexOutOfBoundsException.class, game, call);
    }

    private static void miss(String what) {
        wrong++;
        if (wrong <= 50) {
            System.out.println("wrong: " + what);
        }
    }

    static void finish(String name) {
        System.out.println(name + ": " + right + " right, " + wrong + " wrong");
        if (wrong != 0 || right == 0) {
            System.exit(1);
        }
    }
}
