/** Promises 10 and 11, and how crafts are learned at the end of a turn: learn and setParts. */
public final class LearningTest {
    public static void main(String[] args) {
        learn();
        needsAreAskedWhenTheGoalIsSet();
        cost();
        parts();
        library();
        Check.finish("LearningTest");
    }

    /** A city of the player 0 with a trade of 3 from its second turn on. */
    private static EmpireTurns traders() {
        EmpireTurns game = new EmpireTurns();
        Games.layAll(game, EmpireTurns.SEA);
        game.lay(19, EmpireTurns.PLAIN);
        Games.city(game, 0, 19);
        return game;
    }

    private static void learn() {
        EmpireTurns game = traders();
        game.need(2, 0);
        game.need(2, 1);
        game.need(3, 2);
        Check.badArgument("player 4", game, () -> game.learn(4, 0));
        Check.badArgument("player -1", game, () -> game.learn(-1, 0));
        Check.badArgument("craft 10", game, () -> game.learn(0, 10));
        Check.badArgument("craft -2", game, () -> game.learn(0, -2));
        Check.badState("needs 0 and 1", game, () -> game.learn(0, 2));
        game.learn(0, 9);
        Check.same("goal", game.player(0, 2), 9);
        game.learn(0, EmpireTurns.NONE);
        Check.same("no goal", game.player(0, 2), EmpireTurns.NONE);
        Games.learnBy(game, 0, 0, 20);
        Check.same("crafts", game.player(0, 3), 1);
        Check.badState("known already", game, () -> game.learn(0, 0));
        Check.badState("one of two is not enough", game, () -> game.learn(0, 2));
        Games.learnBy(game, 0, 1, 20);
        Games.learnBy(game, 0, 2, 20);
        Games.learnBy(game, 0, 3, 20);
        Check.same("crafts", game.player(0, 3), 15);
        Check.same("score has 5 for each", game.player(0, 5),
            20 + 3 * game.city(0, 2) + held(game, 0) + game.player(0, 0) / 20);
    }

    private static int held(EmpireTurns game, int player) {
        int held = 0;
        for (int tile = 0; tile < 64; tile++) {
            held += game.tile(tile, 2) == player ? 1 : 0;
        }
        return held;
    }

    private static void needsAreAskedWhenTheGoalIsSet() {
        EmpireTurns game = traders();
        game.learn(0, 1);
        game.need(1, 0);
        game.setParts(0, 100);
        Games.endTurns(game, 7);
        Check.same("18 of 19 are not asked for", game.player(0, 1), 1);
        Check.same("known", game.player(0, 3), 2);
        Check.same("goal", game.player(0, 2), EmpireTurns.NONE);
    }

    /** The trade is 1 in the turn 1, 3 to the turn 9, when the city grows, 5 to the turn 19, then 7. */
    private static void cost() {
        EmpireTurns game = traders();
        game.setParts(0, 100);
        game.learn(0, 4);
        Games.endTurns(game, 11);
        Check.same("35 of 36", game.player(0, 1), 35);
        Check.same("not known", game.player(0, 3), 0);
        game.endTurn();
        Check.same("12 and 6 times 4 are paid", game.player(0, 1), 40 - 36);
        Check.same("known", game.player(0, 3), 16);
        Check.same("no goal, so the store grows", game.player(0, 2), EmpireTurns.NONE);
        Games.endTurns(game, 10);
        Check.same("store", game.player(0, 1), 4 + 7 * 5 + 3 * 7);
        game.learn(0, 0);
        Check.same("not before the end of a turn", game.player(0, 3), 16);
        game.endTurn();
        Check.same("one goal a turn", game.player(0, 1), 60 + 7 - 12);
        Check.same("known", game.player(0, 3), 17);
    }

    private static void parts() {
        EmpireTurns game = traders();
        Check.same("at first", game.setParts(0, 0), 50);
        Check.same("before", game.setParts(0, 100), 0);
        Check.badArgument("player 4", game, () -> game.setParts(4, 0));
        Check.badArgument("player -1", game, () -> game.setParts(-1, 0));
        Check.badArgument("101", game, () -> game.setParts(0, 101));
        Check.badArgument("-1", game, () -> game.setParts(0, -1));
        Check.same("not changed", game.setParts(0, 50), 100);
        game.endTurn();
        Check.same("half of 1, rounded down", game.player(0, 1), 0);
        Check.same("the rest", game.player(0, 0), 1);
        game.setParts(0, 66);
        game.endTurn();
        Check.same("66 parts of 3", game.player(0, 1), 1);
        Check.same("the rest", game.player(0, 0), 3);
        game.setParts(0, 67);
        game.endTurn();
        Check.same("67 parts of 3", game.player(0, 1), 3);
        Check.same("the rest", game.player(0, 0), 4);
    }

    private static void library() {
        EmpireTurns game = traders();
        game.queue(0, EmpireTurns.LIBRARY);
        Games.endTurns(game, 30);
        Check.same("not without the craft 4", game.city(0, 6), 0);
        Check.same("the store stays", game.city(0, 4), 30);
        Games.learnBy(game, 0, 4, 20);
        Check.same("crafts come behind works", game.city(0, 6), 0);
        game.setParts(0, 0);
        game.endTurn();
        Check.same("made", game.city(0, 6), 1 << EmpireTurns.LIBRARY);
        game.setParts(0, 100);
        int before = game.player(0, 1);
        int trade = game.city(0, 10);
        game.endTurn();
        Check.same("half as much more", game.player(0, 1) - before, trade + trade / 2);
        Check.same("and an odd trade", trade % 2, 1);
        before = game.ledger(0, 0);
        game.setParts(0, 0);
        game.endTurn();
        Check.same("no more coins", game.ledger(0, 0) - before, trade);
    }
}
