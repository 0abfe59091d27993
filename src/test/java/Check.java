/** Counts what is due and what is not, for the tests, each of which is a class with a main method. */
final class Check {
    private static int right = 0;
    private static int wrong = 0;
    private static String within = "";

    interface Call {
        void run();
    }

    interface CallOf {
        void run(int value);
    }

    private Check() {
    }

    /** What the checks from now on belong to, said in front of each that is wrong. */
    static void within(String where) {
        within = where;
    }

    static int counted() {
        return right + wrong;
    }

    static void same(String what, long got, long want) {
        if (got == want) {
            right++;
        } else {
            miss(what + ": got " + got + ", due is " + want);
        }
    }

    static void holds(String what, boolean it) {
        if (it) {
            right++;
        } else {
            miss(what);
        }
    }

    /** The plan is this one, and so it is by trying all sets. */
    static void planned(EmpireTurns game, String what, int city, int... tiles) {
        long due = 0;
        for (int tile : tiles) {
            due |= 1L << tile;
        }
        same(what, game.plan(city), due);
        same(what + ", by all", game.planByAll(city), due);
    }

    static void taken(String what, Call call) {
        RuntimeException thrown = thrownBy(call);
        holds(what + ": threw " + thrown, thrown == null);
    }

    /**
     * The call throws just this exception, by the class's own throw and not by the library's, and nothing that
     * can be asked is another one then.
     */
    static void refuses(String what, Class<? extends RuntimeException> due, EmpireTurns game, Call call) {
        String before = Snapshot.of(game);
        RuntimeException thrown = thrownBy(call);
        if (thrown == null || thrown.getClass() != due) {
            miss(what + ": threw " + thrown + ", due is " + due.getName());
        } else if (!isOwn(thrown)) {
            miss(what + ": it was thrown in " + thrown.getStackTrace()[0]);
        } else if (!before.equals(Snapshot.of(game))) {
            miss(what + ": threw, but changed something");
        } else {
            right++;
        }
    }

    /** Whether it was thrown in the class itself, and not in the library, as by a list without such a place. */
    static boolean isOwn(RuntimeException thrown) {
        return thrown.getStackTrace()[0].getClassName().startsWith("EmpireTurns");
    }

    private static RuntimeException thrownBy(Call call) {
        try {
            call.run();
            return null;
        } catch (RuntimeException e) {
            return e;
        }
    }

    static void badState(String what, EmpireTurns game, Call call) {
        refuses(what, IllegalStateException.class, game, call);
    }

    static void badArgument(String what, EmpireTurns game, Call call) {
        refuses(what, IllegalArgumentException.class, game, call);
    }

    static void nothingThere(String what, EmpireTurns game, Call call) {
        refuses(what, IndexOutOfBoundsException.class, game, call);
    }

    /** Both ends of the range are taken, and what is beyond them, near and far, is a bad argument. */
    static void range(EmpireTurns game, int least, int most, CallOf call) {
        taken("the least, " + least, () -> call.run(least));
        taken("the most, " + most, () -> call.run(most));
        onlyFrom(game, least, most, call);
    }

    static void onlyFrom(EmpireTurns game, int least, int most, CallOf call) {
        int[] beyond = {least - 1, most + 1, Integer.MIN_VALUE, Integer.MAX_VALUE};
        for (int value : beyond) {
            badArgument("" + value, game, () -> call.run(value));
        }
    }

    /** There is none with a number below 0, with the next number, or with one far beyond. */
    static void noneFrom(EmpireTurns game, int next, CallOf call) {
        int[] beyond = {-1, next, next + 100, Integer.MIN_VALUE, Integer.MAX_VALUE};
        for (int number : beyond) {
            nothingThere("number " + number, game, () -> call.run(number));
        }
    }

    private static void miss(String what) {
        wrong++;
        if (wrong <= 50) {
            System.out.println("wrong: " + within + what);
        }
    }

    static void finish(String name) {
        System.out.println(name + ": " + right + " right, " + wrong + " wrong");
        if (wrong != 0 || right == 0) {
            System.exit(1);
        }
    }
}
