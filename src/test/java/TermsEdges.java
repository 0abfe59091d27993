/** What all promises share: which exception comes first, and that a refused call changes nothing. */
final class TermsEdges {
    private static final String FIRST_THROWN = "A method throws IndexOutOfBoundsException if there is no such city, "
        + "unit, treaty or offer, IllegalArgumentException if another argument is out of range, and "
        + "IllegalStateException as it documents; if several apply, the one that it lists first is thrown.";

    private TermsEdges() {
    }

    @Sentence(promise = 21, under = "What it is",
        says = "An object is used for at most 512 calls after it has been made")
    static void fiveHundredAndTwelveCalls() {
        EmpireTurns game = new EmpireTurns();
        Games.city(game, 0, 27);
        Games.endTurns(game, 509);
        Check.same("the call 512", game.endTurn(), 510);
    }

    @Sentence(promise = 7, under = "Terms", says = FIRST_THROWN)
    static void noSuchOneComesBeforeArgumentsAndStates() {
        EmpireTurns game = new EmpireTurns();
        Check.nothingThere("order", game, () -> game.order(0, 0, 10, 0));
        Check.nothingThere("queue", game, () -> game.queue(0, 10));
        Check.nothingThere("unqueue", game, () -> game.unqueue(0, -1));
        Check.nothingThere("city", game, () -> game.city(0, 11));
        Check.nothingThere("unit", game, () -> game.unit(0, 6));
        Check.nothingThere("treaty", game, () -> game.treaty(0, 6));
        Check.nothingThere("step", game, () -> game.step(0, 2, 2));
        Check.nothingThere("work", game, () -> game.work(0, 3));
    }

    @Sentence(promise = 13, under = "Terms", says = FIRST_THROWN)
    static void playersComeBeforeOffersAndTreaties() {
        EmpireTurns game = new EmpireTurns();
        Check.badArgument("agree, from", game, () -> game.agree(4, 0));
        Check.badArgument("agree, to", game, () -> game.agree(0, -1));
        Check.badArgument("cancel", game, () -> game.cancel(4, 0));
    }

    @Sentence(promise = 14, under = "Terms", says = FIRST_THROWN)
    static void offersAndTreatiesComeBeforeStates() {
        EmpireTurns game = new EmpireTurns();
        for (int i = 0; i < 40; i++) {
            Games.agree(game, 0, 1, EmpireTurns.TRIBUTE, 20, 1);
        }
        Check.nothingThere("no offer, and 40 treaties", game, () -> game.agree(0, 1));
        Check.nothingThere("no treaty, and not of the player", game, () -> game.cancel(2, 40));
    }

    @Sentence(promise = 2, under = "Terms", says = FIRST_THROWN)
    static void argumentsComeBeforeStates() {
        EmpireTurns game = new EmpireTurns();
        game.lay(1, EmpireTurns.SEA);
        int guard = game.place(0, EmpireTurns.GUARD, 0);
        Games.city(game, 0, 27);
        for (int i = 0; i < 6; i++) {
            game.queue(0, EmpireTurns.GUARD);
        }
        Check.badArgument("lay where a unit is", game, () -> game.lay(0, 6));
        Check.badArgument("place on the SEA", game, () -> game.place(0, 5, 1));
        Check.badArgument("queue a seventh", game, () -> game.queue(0, 10));
        Check.badArgument("step out of the tiles", game, () -> game.step(guard, -2, 0));
        Check.badArgument("a job for a GUARD", game, () -> game.work(guard, 3));
        game.endTurn();
        Check.badArgument("lay in the turn 1", game, () -> game.lay(64, EmpireTurns.HILL));
        Check.badArgument("need in the turn 1", game, () -> game.need(1, 1));
        Check.badArgument("place in the turn 1", game, () -> game.place(4, 0, 5));
    }

    @Sentence(promise = 10, under = "Terms", says = "A call that throws changes nothing.")
    static void refusedCallsChangeNothing() {
        EmpireTurns calm = inPlay();
        EmpireTurns tried = inPlay();
        for (int turn = 1; turn <= 12; turn++) {
            refuseMuch(tried);
            Check.same("turn", tried.endTurn(), turn);
            calm.endTurn();
            Check.holds("alike in the turn " + turn, Snapshot.of(calm).equals(Snapshot.of(tried)));
        }
        Check.same("queue", tried.queue(0, EmpireTurns.TEMPLE), calm.queue(0, EmpireTurns.TEMPLE));
        Check.same("works", tried.unqueue(0, 1), calm.unqueue(0, 1));
        Check.same("parts", tried.setParts(0, 1), 30);
        Check.same("offers", tried.agree(0, 1), calm.agree(0, 1));
        Check.holds("alike at the end", Snapshot.of(calm).equals(Snapshot.of(tried)));
    }

    private static EmpireTurns inPlay() {
        EmpireTurns game = new EmpireTurns();
        game.lay(36, EmpireTurns.HILL);
        game.need(5, 4);
        Games.city(game, 0, 27);
        Games.city(game, 1, 63);
        game.place(0, EmpireTurns.WORKER, 0);
        game.place(1, EmpireTurns.GUARD, 60);
        game.queue(0, EmpireTurns.WALLS);
        game.queue(0, EmpireTurns.GUARD);
        game.order(0, 2, 3, 1);
        game.learn(0, 0);
        game.setParts(0, 30);
        game.offer(0, 1, EmpireTurns.TRIBUTE, 5, 2);
        Games.agree(game, 0, 2, EmpireTurns.PEACE, 20, 0);
        return game;
    }

    private static void refuseMuch(EmpireTurns game) {
        int worker = 2;
        Check.badState("lay", game, () -> game.lay(27, EmpireTurns.SEA));
        Check.badArgument("need", game, () -> game.need(3, 3));
        Check.badArgument("place", game, () -> game.place(0, EmpireTurns.TEMPLE, 0));
        Check.badState("found", game, () -> game.found(worker));
        Check.badArgument("order", game, () -> game.order(0, 9, 9, 0));
        Check.badArgument("queue", game, () -> game.queue(0, 10));
        Check.badArgument("unqueue", game, () -> game.unqueue(0, 5));
        Check.badState("hurry", game, () -> game.hurry(1));
        Check.badState("learn", game, () -> game.learn(0, 5));
        Check.badArgument("setParts", game, () -> game.setParts(0, 101));
        Check.badArgument("offer", game, () -> game.offer(0, 1, EmpireTurns.TRIBUTE, 5, 51));
        Check.nothingThere("agree", game, () -> game.agree(1, 0));
        Check.badState("cancel", game, () -> game.cancel(1, 0));
        Check.badState("step", game, () -> game.step(worker, -1, 0));
        Check.badArgument("work", game, () -> game.work(worker, 3));
        Check.nothingThere("planByAll", game, () -> game.planByAll(2));
    }

    @Sentence(promise = 5, under = "Turns", says = "The constants: NONE = -1: There is none, nobody.")
    static void constantForNone() {
        constants(new int[] {-1}, EmpireTurns.NONE);
    }

    @Sentence(promise = 2, under = "Turns",
        says = "SEA = 0, PLAIN = 1, HILL = 2, FOREST = 3, DESERT = 4, RIVER = 5: Lands.")
    static void constantsOfLands() {
        constants(new int[] {0, 1, 2, 3, 4, 5}, EmpireTurns.SEA, EmpireTurns.PLAIN, EmpireTurns.HILL,
            EmpireTurns.FOREST, EmpireTurns.DESERT, EmpireTurns.RIVER);
    }

    @Sentence(promise = 7, under = "Turns", says = "SETTLER = 0, WORKER = 1, GUARD = 2, RIDER = 3, RAM = 4, TEMPLE = 5, "
        + "GRANARY = 6, WALLS = 7, LIBRARY = 8, MARKET = 9: Works: units and buildings.")
    static void constantsOfWorks() {
        constants(new int[] {0, 1, 2, 3, 4, 5, 6, 7, 8, 9}, EmpireTurns.SETTLER, EmpireTurns.WORKER,
            EmpireTurns.GUARD, EmpireTurns.RIDER, EmpireTurns.RAM, EmpireTurns.TEMPLE, EmpireTurns.GRANARY,
            EmpireTurns.WALLS, EmpireTurns.LIBRARY, EmpireTurns.MARKET);
    }

    @Sentence(promise = 18, under = "Turns", says = "FARM = 1, MINE = 2, ROAD = 4: What workers make.")
    static void constantsOfJobs() {
        constants(new int[] {1, 2, 4}, EmpireTurns.FARM, EmpireTurns.MINE, EmpireTurns.ROAD);
    }

    @Sentence(promise = 12, under = "Turns",
        says = "PEACE = 0, PASSAGE = 1, TRIBUTE = 2, CRAFT = 3: Kinds of offers and treaties.")
    static void constantsOfTreaties() {
        constants(new int[] {0, 1, 2, 3}, EmpireTurns.PEACE, EmpireTurns.PASSAGE, EmpireTurns.TRIBUTE,
            EmpireTurns.CRAFT);
    }

    @Sentence(promise = 15, under = "Turns", says = "STANDS = 0, RUN_OUT = 1, BROKEN = 2, UNPAID = 3: Why a treaty does "
        + "not stand: it stands, it has run out, was broken, or not paid.")
    static void constantsOfReasons() {
        constants(new int[] {0, 1, 2, 3}, EmpireTurns.STANDS, EmpireTurns.RUN_OUT, EmpireTurns.BROKEN,
            EmpireTurns.UNPAID);
    }

    private static void constants(int[] due, int... got) {
        for (int i = 0; i < due.length; i++) {
            Check.same("the constant " + i, got[i], due[i]);
        }
    }

    @Sentence(promise = 21, under = "Terms", says = "All divisions are rounded down.")
    static void divisionsAreRoundedDown() {
        EmpireTurns game = new EmpireTurns();
        Games.city(game, 0, 27);
        Check.same("20 by 9", game.pull(0, 29), 2);
        Check.same("20 by 16", game.pull(0, 30), 1);
        game.setParts(0, 99);
        game.endTurn();
        Check.same("99 of 100 parts of 1", game.player(0, 1), 0);
        Check.same("the rest", game.player(0, 0), 1);
    }
}
