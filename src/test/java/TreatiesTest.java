/** Promises 12 to 16, and what becomes of treaties at the end of a turn. */
public final class TreatiesTest {
    public static void main(String[] args) {
        offer();
        agree();
        passage();
        forty();
        crafts();
        cancel();
        runOut();
        tribute();
        atWar();
        Check.finish("TreatiesTest");
    }

    private static void offer() {
        EmpireTurns game = new EmpireTurns();
        int[][] bad = {
            {-1, 1, 0, 1, 0}, {4, 1, 0, 1, 0}, {0, -1, 0, 1, 0}, {0, 4, 0, 1, 0}, {2, 2, 0, 1, 0},
            {0, 1, -1, 1, 0}, {0, 1, 4, 1, 0}, {0, 1, 0, 0, 0}, {0, 1, 0, 21, 0}, {0, 1, 3, 0, 1},
            {0, 1, 3, 21, 1}, {0, 1, 0, 1, 1}, {0, 1, 0, 1, -1}, {0, 1, 1, 1, 1}, {0, 1, 2, 1, 0},
            {0, 1, 2, 1, 51}, {0, 1, 3, 1, -1}, {0, 1, 3, 1, 10},
        };
        for (int[] b : bad) {
            Check.badArgument("offer", game, () -> game.offer(b[0], b[1], b[2], b[3], b[4]));
        }
        Check.nothingThere("no offer came of it", game, () -> game.agree(0, 1));
        game.offer(0, 1, EmpireTurns.PEACE, 20, 0);
        Check.badArgument("a bad one", game, () -> game.offer(0, 1, EmpireTurns.TRIBUTE, 1, 51));
        game.offer(1, 0, EmpireTurns.TRIBUTE, 7, 50);
        Check.nothingThere("to another one", game, () -> game.agree(0, 2));
        Check.same("agree", game.agree(0, 1), 0);
        tells(game, 0, EmpireTurns.PEACE, 0, 1, 20, EmpireTurns.STANDS, EmpireTurns.NONE);
        Check.nothingThere("gone", game, () -> game.agree(0, 1));
        Check.same("agree", game.agree(1, 0), 1);
        tells(game, 1, EmpireTurns.TRIBUTE, 1, 0, 7, EmpireTurns.STANDS, EmpireTurns.NONE);
        game.offer(2, 3, EmpireTurns.PEACE, 20, 0);
        game.offer(2, 3, EmpireTurns.TRIBUTE, 3, 1);
        Games.endTurns(game, 3);
        Check.same("in place of the earlier one", game.agree(2, 3), 2);
        tells(game, 2, EmpireTurns.TRIBUTE, 2, 3, 3, EmpireTurns.STANDS, EmpireTurns.NONE);
    }

    private static void tells(EmpireTurns game, int treaty, int... told) {
        for (int what = 0; what < told.length; what++) {
            Check.same("treaty " + treaty + " tells " + what, game.treaty(treaty, what), told[what]);
        }
        Check.badArgument("what 6", game, () -> game.treaty(treaty, 6));
        Check.badArgument("what -1", game, () -> game.treaty(treaty, -1));
    }

    private static void agree() {
        EmpireTurns game = new EmpireTurns();
        Check.badArgument("from -1", game, () -> game.agree(-1, 0));
        Check.badArgument("from 4", game, () -> game.agree(4, 0));
        Check.badArgument("to -1", game, () -> game.agree(0, -1));
        Check.badArgument("to 4", game, () -> game.agree(0, 4));
        Check.nothingThere("with itself", game, () -> game.agree(3, 3));
        Check.nothingThere("no offer", game, () -> game.agree(1, 2));
        Check.nothingThere("no treaty", game, () -> game.treaty(0, 9));
        Check.nothingThere("no treaty", game, () -> game.treaty(-1, 0));
        Games.agree(game, 0, 1, EmpireTurns.PEACE, 1, 0);
        game.offer(1, 0, EmpireTurns.PEACE, 9, 0);
        Check.badState("a PEACE stands", game, () -> game.agree(1, 0));
        game.endTurn();
        Check.same("the offer waits still", game.agree(1, 0), 1);
        Games.agree(game, 0, 2, EmpireTurns.PEACE, 9, 0);
        Check.holds("peace", !game.atWar(2, 0) && game.atWar(2, 1) && !game.atWar(0, 1));
    }

    private static void passage() {
        EmpireTurns game = new EmpireTurns();
        game.offer(0, 1, EmpireTurns.PASSAGE, 9, 0);
        Check.badState("no PEACE", game, () -> game.agree(0, 1));
        Games.agree(game, 2, 1, EmpireTurns.PEACE, 9, 0);
        Check.badState("a PEACE with another one", game, () -> game.agree(0, 1));
        Games.agree(game, 1, 0, EmpireTurns.PEACE, 9, 0);
        Check.same("PASSAGE", game.agree(0, 1), 2);
        game.offer(1, 0, EmpireTurns.PASSAGE, 9, 0);
        Check.badState("one stands", game, () -> game.agree(1, 0));
        game.cancel(1, 1);
        Check.holds("war", game.atWar(0, 1));
        Check.same("the PASSAGE stands", game.treaty(2, 4), EmpireTurns.STANDS);
        Games.agree(game, 0, 1, EmpireTurns.PEACE, 9, 0);
        Check.badState("it stands still", game, () -> game.agree(1, 0));
        game.cancel(0, 2);
        Check.same("then another one can", game.agree(1, 0), 4);
    }

    private static void forty() {
        EmpireTurns game = new EmpireTurns();
        Games.city(game, 0, 19);
        Games.learnBy(game, 0, 0, 40);
        for (int i = 0; i < 40; i++) {
            game.offer(1, 2, EmpireTurns.TRIBUTE, 5, 1);
            Check.same("tributes may stand beside another", game.agree(1, 2), i);
        }
        game.offer(1, 2, EmpireTurns.TRIBUTE, 5, 1);
        Check.badState("41", game, () -> game.agree(1, 2));
        game.offer(2, 3, EmpireTurns.PEACE, 5, 0);
        Check.badState("41", game, () -> game.agree(2, 3));
        game.offer(0, 3, EmpireTurns.CRAFT, 5, 0);
        Check.same("a CRAFT is no treaty", game.agree(0, 3), EmpireTurns.NONE);
        Check.same("given", game.player(3, 3), 1);
    }

    private static void crafts() {
        EmpireTurns game = new EmpireTurns();
        game.need(3, 1);
        game.learn(0, 3 - 1);
        Games.city(game, 0, 19);
        Games.city(game, 1, 44);
        game.offer(0, 1, EmpireTurns.CRAFT, 5, 1);
        Check.badState("not known by the one", game, () -> game.agree(0, 1));
        Games.learnBy(game, 0, 1, 40);
        Games.learnBy(game, 0, 3, 60);
        Check.same("crafts", game.player(0, 3), 10);
        game.offer(0, 1, EmpireTurns.CRAFT, 5, 3);
        Check.badState("cannot be learned by the other one", game, () -> game.agree(0, 1));
        game.learn(1, 1);
        game.offer(0, 1, EmpireTurns.CRAFT, 20, 1);
        Check.same("no treaty", game.agree(0, 1), EmpireTurns.NONE);
        Check.same("known", game.player(1, 3), 2);
        Check.same("the goal is none", game.player(1, 2), EmpireTurns.NONE);
        Check.same("nothing is paid", game.player(1, 1), 0);
        Check.nothingThere("the offer is gone", game, () -> game.agree(0, 1));
        Check.nothingThere("no treaty", game, () -> game.treaty(0, 0));
        game.offer(0, 1, EmpireTurns.CRAFT, 5, 1);
        Check.badState("known already", game, () -> game.agree(0, 1));
        game.learn(1, 5);
        game.offer(0, 1, EmpireTurns.CRAFT, 5, 3);
        game.agree(0, 1);
        Check.same("known", game.player(1, 3), 10);
        Check.same("another goal stays", game.player(1, 2), 5);
        Check.same("the one knows it still", game.player(0, 3), 10);
    }

    private static void cancel() {
        EmpireTurns game = new EmpireTurns();
        Games.agree(game, 0, 1, EmpireTurns.PEACE, 9, 0);
        Games.agree(game, 0, 1, EmpireTurns.TRIBUTE, 9, 5);
        Games.agree(game, 2, 3, EmpireTurns.PEACE, 1, 0);
        Check.badArgument("player -1", game, () -> game.cancel(-1, 0));
        Check.badArgument("player 4, treaty 9", game, () -> game.cancel(4, 9));
        Check.nothingThere("treaty 3", game, () -> game.cancel(0, 3));
        Check.nothingThere("treaty -1", game, () -> game.cancel(0, -1));
        Check.badState("not of the player", game, () -> game.cancel(2, 0));
        Check.same("breaches", game.cancel(1, 0), 1);
        tells(game, 0, EmpireTurns.PEACE, 0, 1, 9, EmpireTurns.BROKEN, 1);
        Check.badState("does not stand", game, () -> game.cancel(0, 0));
        Check.same("breaches of the first one", game.player(0, 4), 0);
        Check.same("score", game.player(1, 5), -10);
        Check.same("who gets it can cancel, too", game.cancel(1, 1), 2);
        tells(game, 1, EmpireTurns.TRIBUTE, 0, 1, 9, EmpireTurns.BROKEN, 1);
        game.endTurn();
        tells(game, 0, EmpireTurns.PEACE, 0, 1, 9, EmpireTurns.BROKEN, 1);
        tells(game, 1, EmpireTurns.TRIBUTE, 0, 1, 9, EmpireTurns.BROKEN, 1);
        Check.badState("run out", game, () -> game.cancel(2, 2));
        Check.same("no tribute was asked for", game.player(0, 4), 0);
    }

    private static void runOut() {
        EmpireTurns game = new EmpireTurns();
        Games.agree(game, 0, 1, EmpireTurns.PEACE, 3, 0);
        game.endTurn();
        tells(game, 0, EmpireTurns.PEACE, 0, 1, 2, EmpireTurns.STANDS, EmpireTurns.NONE);
        game.endTurn();
        tells(game, 0, EmpireTurns.PEACE, 0, 1, 1, EmpireTurns.STANDS, EmpireTurns.NONE);
        Check.holds("peace", !game.atWar(0, 1));
        game.endTurn();
        tells(game, 0, EmpireTurns.PEACE, 0, 1, 0, EmpireTurns.RUN_OUT, EmpireTurns.NONE);
        Check.holds("war", game.atWar(0, 1));
        game.endTurn();
        tells(game, 0, EmpireTurns.PEACE, 0, 1, 0, EmpireTurns.RUN_OUT, EmpireTurns.NONE);
        Check.same("no breach", game.player(0, 4) + game.player(1, 4), 0);
    }

    private static void tribute() {
        EmpireTurns game = new EmpireTurns();
        Games.city(game, 0, 19);
        game.setParts(0, 0);
        Games.endTurns(game, 10);
        Check.same("coins", game.player(0, 0), 10);
        Games.agree(game, 0, 1, EmpireTurns.TRIBUTE, 2, 4);
        Games.agree(game, 0, 2, EmpireTurns.TRIBUTE, 9, 3);
        Games.agree(game, 2, 3, EmpireTurns.TRIBUTE, 9, 2);
        game.endTurn();
        // By rising treaties: 11 less 4 less 3, and the player 2 pays of what it has just got.
        Check.same("payer", game.player(0, 0), 4);
        Check.same("first getter", game.player(1, 0), 4);
        Check.same("second getter, who pays on", game.player(2, 0), 1);
        Check.same("third getter", game.player(3, 0), 2);
        game.endTurn();
        // 5 less 4, then 1 of 3, then 2 of 2.
        tells(game, 0, EmpireTurns.TRIBUTE, 0, 1, 0, EmpireTurns.RUN_OUT, EmpireTurns.NONE);
        tells(game, 1, EmpireTurns.TRIBUTE, 0, 2, 8, EmpireTurns.UNPAID, 0);
        tells(game, 2, EmpireTurns.TRIBUTE, 2, 3, 7, EmpireTurns.STANDS, EmpireTurns.NONE);
        Check.same("payer", game.player(0, 0), 0);
        Check.same("breaches", game.player(0, 4), 1);
        Check.same("second getter", game.player(2, 0), 0);
        Check.same("given", game.ledger(0, 5), 12);
        Check.same("got", game.ledger(1, 1), 8);
        Check.same("got", game.ledger(2, 1), 4);
        Check.same("given", game.ledger(2, 5), 4);
        game.endTurn();
        tells(game, 2, EmpireTurns.TRIBUTE, 2, 3, 7, EmpireTurns.UNPAID, 2);
        Check.same("breaches", game.player(2, 4), 1);
        Check.same("no more is paid", game.player(0, 0), 1);
    }

    private static void atWar() {
        EmpireTurns game = new EmpireTurns();
        for (int one = 0; one < 4; one++) {
            int itself = one;
            Check.holds("with itself", !game.atWar(one, one));
            Check.badArgument("other -1", game, () -> game.atWar(itself, -1));
            Check.badArgument("other 4", game, () -> game.atWar(itself, 4));
            Check.badArgument("one -1", game, () -> game.atWar(-1, itself));
            Check.badArgument("one 4", game, () -> game.atWar(4, itself));
        }
        Check.badArgument("both", game, () -> game.atWar(4, 4));
        Games.agree(game, 3, 1, EmpireTurns.PEACE, 9, 0);
        Check.holds("both ways", !game.atWar(1, 3) && !game.atWar(3, 1));
        Check.holds("others", game.atWar(1, 2) && game.atWar(0, 3) && game.atWar(1, 0));
    }
}
