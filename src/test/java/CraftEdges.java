/** Edges of crafts and learning, and of the promises 10 and 11. */
final class CraftEdges {
    private static final String NEEDS = "It can need lesser ones, at most two; it can be learned or given only if the "
        + "player knows these (asked when the goal is set).";
    private static final String GOAL = "Who has a goal and enough in the store of learning knows it, and pays its cost; "
        + "the goal is none then, and also when it is given or captured.";
    private static final String OUT_OF_RANGE = "Throws IllegalArgumentException if an argument is out of range";

    private CraftEdges() {
    }

    /** The city of the player 0 has the trade 1 each turn, all of which is for learning. */
    private static EmpireTurns oneEachTurn() {
        EmpireTurns game = new EmpireTurns();
        Games.city(game, 0, 27);
        game.setParts(0, 100);
        return game;
    }

    // ---- Crafts

    @Sentence(promise = 10, under = "Crafts", says = "There are the crafts 0 to 9;")
    static void tenCrafts() {
        EmpireTurns game = new EmpireTurns();
        Check.range(game, EmpireTurns.NONE, 9, v -> game.learn(0, v));
    }

    @Sentence(promise = 10, under = "Crafts", says = "a craft costs 12 and 6 times its number.")
    static void costsOfCrafts() {
        for (int craft = 0; craft <= 9; craft++) {
            EmpireTurns game = oneEachTurn();
            game.learn(0, craft);
            int cost = 12 + 6 * craft;
            Games.endTurns(game, cost - 1);
            Check.same("one less is not enough for " + craft, game.player(0, 3), 0);
            Check.same("it is in the store", game.player(0, 1), cost - 1);
            game.endTurn();
            Check.same("just enough for " + craft, game.player(0, 3), 1 << craft);
            Check.same("it is paid", game.player(0, 1), 0);
        }
    }

    @Sentence(promise = 3, under = "Crafts", says = NEEDS)
    static void craftsNeedLesserOnesAtMostTwo() {
        EmpireTurns game = new EmpireTurns();
        Check.badArgument("a greater one", game, () -> game.need(4, 5));
        Check.badArgument("itself", game, () -> game.need(4, 4));
        game.need(4, 3);
        game.need(4, 1);
        Check.badState("a third", game, () -> game.need(4, 2));
    }

    @Sentence(promise = 10, under = "Crafts", says = NEEDS)
    static void craftsAreLearnedBehindTheirNeeds() {
        EmpireTurns game = oneEachTurn();
        game.need(2, 0);
        game.need(2, 1);
        Check.badState("none of both", game, () -> game.learn(0, 2));
        Games.learnBy(game, 0, 1, 20);
        Check.badState("one of both", game, () -> game.learn(0, 2));
        Games.learnBy(game, 0, 0, 20);
        Check.taken("both", () -> game.learn(0, 2));
    }

    @Sentence(promise = 13, under = "Crafts", says = NEEDS)
    static void craftsAreGivenBehindTheirNeeds() {
        EmpireTurns game = oneEachTurn();
        game.need(2, 0);
        Games.learnBy(game, 0, 0, 20);
        Games.learnBy(game, 0, 2, 30);
        game.offer(0, 1, EmpireTurns.CRAFT, 1, 2);
        Check.badState("without the need", game, () -> game.agree(0, 1));
        Games.agree(game, 0, 1, EmpireTurns.CRAFT, 1, 0);
        game.offer(0, 1, EmpireTurns.CRAFT, 1, 2);
        Check.same("with it", game.agree(0, 1), EmpireTurns.NONE);
        Check.same("known", game.player(1, 3), 5);
    }

    @Sentence(promise = 10, under = "Crafts", says = NEEDS)
    static void needsAreAskedWhenTheGoalIsSet() {
        EmpireTurns game = oneEachTurn();
        game.learn(0, 1);
        game.need(1, 0);
        Games.endTurns(game, 18);
        Check.same("learned without what it came to need", game.player(0, 3), 2);
    }

    @Sentence(promise = 10, under = "Crafts", says = GOAL)
    static void theGoalIsNoneWhenItIsKnown() {
        EmpireTurns game = oneEachTurn();
        game.learn(0, 0);
        Games.endTurns(game, 11);
        Check.same("the goal", game.player(0, 2), 0);
        game.endTurn();
        Check.same("none", game.player(0, 2), EmpireTurns.NONE);
        Games.endTurns(game, 20);
        Check.same("without a goal the store grows", game.player(0, 1), 20);
        Check.same("and nothing is learned", game.player(0, 3), 1);
    }

    @Sentence(promise = 10, under = "Crafts", says = GOAL)
    static void theRestOfTheStoreStays() {
        EmpireTurns game = oneEachTurn();
        Games.endTurns(game, 40);
        game.learn(0, 0);
        Check.same("not before the end of the turn", game.player(0, 3), 0);
        game.endTurn();
        Check.same("known", game.player(0, 3), 1);
        Check.same("41 less 12", game.player(0, 1), 29);
    }

    @Sentence(promise = 13, under = "Crafts", says = GOAL)
    static void theGoalIsNoneWhenItIsGiven() {
        EmpireTurns game = oneEachTurn();
        Games.learnBy(game, 0, 0, 20);
        Games.learnBy(game, 0, 1, 20);
        game.learn(1, 1);
        Games.agree(game, 0, 1, EmpireTurns.CRAFT, 1, 0);
        Check.same("another one is given", game.player(1, 2), 1);
        Games.agree(game, 0, 1, EmpireTurns.CRAFT, 1, 1);
        Check.same("the goal is given", game.player(1, 2), EmpireTurns.NONE);
        Check.same("nothing is paid", game.player(1, 1), 0);
    }

    @Sentence(promise = 17, under = "Crafts", says = GOAL)
    static void theGoalIsNoneWhenItIsCaptured() {
        EmpireTurns game = Games.readyToTake();
        Games.learnBy(game, 1, 0, 20);
        game.learn(0, 0);
        Check.holds("taken", game.step(Games.TAKER, 1, 0));
        Check.same("captured", game.player(0, 3), 1);
        Check.same("the goal", game.player(0, 2), EmpireTurns.NONE);
        EmpireTurns other = Games.readyToTake();
        Games.learnBy(other, 1, 0, 20);
        other.learn(0, 3);
        Check.holds("taken", other.step(Games.TAKER, 1, 0));
        Check.same("captured", other.player(0, 3), 1);
        Check.same("another goal stays", other.player(0, 2), 3);
    }

    // ---- Promise 10: learn

    @Sentence(promise = 10, says = "Sets the goal of a player.")
    static void learnSetsTheGoal() {
        EmpireTurns game = new EmpireTurns();
        game.learn(2, 9);
        Check.same("the goal", game.player(2, 2), 9);
        game.learn(2, 0);
        Check.same("another one", game.player(2, 2), 0);
        Check.same("of another player", game.player(1, 2), EmpireTurns.NONE);
    }

    @Sentence(promise = 10, says = "player: 0 to 3")
    static void learnPlayers() {
        EmpireTurns game = new EmpireTurns();
        Check.range(game, 0, 3, v -> game.learn(v, 5));
    }

    @Sentence(promise = 10, says = "craft: 0 to 9, or NONE")
    static void learnCraftsOrNone() {
        EmpireTurns game = new EmpireTurns();
        Check.range(game, EmpireTurns.NONE, 9, v -> game.learn(3, v));
        Check.same("the most", game.player(3, 2), 9);
        game.learn(3, EmpireTurns.NONE);
        Check.same("none", game.player(3, 2), EmpireTurns.NONE);
        game.learn(3, EmpireTurns.NONE);
        Check.same("none again", game.player(3, 2), EmpireTurns.NONE);
    }

    @Sentence(promise = 10, says = OUT_OF_RANGE)
    static void learnOutOfRange() {
        EmpireTurns game = new EmpireTurns();
        game.learn(0, 3);
        Check.badArgument("player", game, () -> game.learn(4, EmpireTurns.NONE));
        Check.badArgument("craft", game, () -> game.learn(0, -2));
        Check.badArgument("both", game, () -> game.learn(-1, 10));
    }

    @Sentence(promise = 10, says = "Throws IllegalStateException if the player knows it,")
    static void learnWhatIsKnown() {
        EmpireTurns game = oneEachTurn();
        Games.learnBy(game, 0, 0, 20);
        Check.badState("known", game, () -> game.learn(0, 0));
        Check.taken("not by another player", () -> game.learn(1, 0));
    }

    @Sentence(promise = 10, says = "or does not know what it needs")
    static void learnWithoutItsNeeds() {
        EmpireTurns game = oneEachTurn();
        game.need(1, 0);
        Check.badState("not known", game, () -> game.learn(0, 1));
        game.learn(0, 0);
        Check.badState("a goal is not known", game, () -> game.learn(0, 1));
        Games.endTurns(game, 12);
        Check.taken("known", () -> game.learn(0, 1));
        Check.badState("not by another player", game, () -> game.learn(1, 1));
    }

    // ---- Promise 11: setParts

    @Sentence(promise = 11, says = "Sets how many of 100 parts of its trade a player uses for learning.")
    static void partsAreRoundedDown() {
        int[][] due = {{0, 0}, {33, 0}, {34, 1}, {66, 1}, {67, 2}, {99, 2}, {100, 3}};
        for (int[] row : due) {
            EmpireTurns game = new EmpireTurns();
            Games.layAll(game, EmpireTurns.SEA);
            game.lay(27, EmpireTurns.PLAIN);
            Games.city(game, 0, 27);
            game.setParts(0, 0);
            game.endTurn();
            game.setParts(0, row[0]);
            Check.same("trade", game.city(0, 10), 3);
            game.endTurn();
            Check.same(row[0] + " of 100 parts of 3", game.player(0, 1), row[1]);
            Check.same("the rest", game.player(0, 0), 1 + 3 - row[1]);
        }
    }

    @Sentence(promise = 11, says = "player: 0 to 3")
    static void partsOfPlayers() {
        EmpireTurns game = new EmpireTurns();
        Check.range(game, 0, 3, v -> game.setParts(v, 20));
        Check.same("of another player", game.setParts(1, 50), 50);
    }

    @Sentence(promise = 11, says = "parts: 0 to 100")
    static void partsFromNoneToAll() {
        EmpireTurns game = new EmpireTurns();
        Check.range(game, 0, 100, v -> game.setParts(2, v));
        Check.same("the most", game.setParts(2, 0), 100);
    }

    @Sentence(promise = 11, says = "Returns how many before.")
    static void partsBefore() {
        EmpireTurns game = new EmpireTurns();
        Check.same("at first", game.setParts(3, 0), 50);
        Check.same("none", game.setParts(3, 100), 0);
        Check.same("all", game.setParts(3, 7), 100);
        Check.same("some", game.setParts(3, 7), 7);
    }

    @Sentence(promise = 11, says = OUT_OF_RANGE)
    static void partsOutOfRange() {
        EmpireTurns game = new EmpireTurns();
        game.setParts(0, 12);
        Check.badArgument("parts", game, () -> game.setParts(0, 101));
        Check.badArgument("parts", game, () -> game.setParts(0, -1));
        Check.badArgument("both", game, () -> game.setParts(4, 101));
        Check.same("nothing was set", game.setParts(0, 50), 12);
    }
}
