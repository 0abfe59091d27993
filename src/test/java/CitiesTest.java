/** Promises 5 to 9 and 24: found, order, queue, unqueue, hurry and city. */
public final class CitiesTest {
    public static void main(String[] args) {
        found();
        foundRefused();
        foundTwelve();
        order();
        queues();
        hurry();
        city();
        ownTile();
        Check.finish("CitiesTest");
    }

    private static void found() {
        EmpireTurns game = new EmpireTurns();
        int settler = game.place(2, EmpireTurns.SETTLER, 27);
        Check.same("first city", game.found(settler), 0);
        Check.holds("the settler is gone", !Games.isThere(game, settler));
        Check.same("no unit", game.unitsOn(27), 0);
        int[] told = {2, 27, 1, 0, 0, 5, 0, EmpireTurns.NONE, 2, 1, 1};
        for (int what = 0; what < told.length; what++) {
            Check.same("city's " + what, game.city(0, what), told[what]);
        }
        Check.same("its tile", game.tile(27, 2), 2);
        Check.same("the city on it", game.tile(27, 3), 0);
        Check.same("its tile alone", game.tile(28, 2), EmpireTurns.NONE);
        Check.same("second city", Games.city(game, 2, 30), 1);
    }

    private static void foundRefused() {
        EmpireTurns game = new EmpireTurns();
        Games.city(game, 0, 27);
        int near = game.place(0, EmpireTurns.SETTLER, 29);
        int worker = game.place(0, EmpireTurns.WORKER, 0);
        int tired = game.place(0, EmpireTurns.SETTLER, 0);
        int other = game.place(1, EmpireTurns.SETTLER, 24);
        Games.city(game, 1, 63);
        Check.nothingThere("unit -1", game, () -> game.found(-1));
        Check.nothingThere("unit 99", game, () -> game.found(99));
        Check.nothingThere("a unit that is gone", game, () -> game.found(0));
        Check.badState("a city at 2", game, () -> game.found(near));
        Check.badState("no settler", game, () -> game.found(worker));
        game.step(tired, 0, 1);
        game.step(tired, 0, 1);
        Check.badState("no moves left", game, () -> game.found(tired));
        // Culture 5 + 11 = 16 makes a pull of 64 / 16 at the distance 3.
        Games.endTurns(game, 11);
        Check.same("the tile is another one's", game.tile(24, 2), 0);
        Check.badState("another one's borders", game, () -> game.found(other));
        Check.same("own borders do not bar", game.found(tired), 2);
    }

    private static void foundTwelve() {
        EmpireTurns game = Games.twelveFounded();
        Check.same("4 of 12 were destroyed", game.player(0, 6), 8);
        Check.nothingThere("a number is not used again", game, () -> game.city(0, 0));
        int late = game.place(0, EmpireTurns.SETTLER, 0);
        Check.badState("a thirteenth", game, () -> game.found(late));
    }

    private static void order() {
        EmpireTurns game = new EmpireTurns();
        game.lay(18, EmpireTurns.HILL);
        game.lay(20, EmpireTurns.SEA);
        game.lay(28, EmpireTurns.RIVER);
        Games.city(game, 0, 19);
        game.endTurn();
        // The worths are: PLAIN 2f + w, HILL f + 2w, SEA 2f + 2t, RIVER 3f + t.
        Check.same("1, 1, 1: SEA and RIVER are 4", game.plan(0), 1L << 20);
        game.order(0, 2, 1, 1);
        Check.same("RIVER", game.plan(0), 1L << 28);
        game.order(0, 1, 9, 1);
        Check.same("HILL", game.plan(0), 1L << 18);
        game.order(0, 1, 1, 9);
        Check.same("SEA", game.plan(0), 1L << 20);
        game.order(0, 9, 9, 9);
        Check.same("alike, the lower", game.plan(0), 1L << 20);
        Check.nothingThere("city 1", game, () -> game.order(1, 1, 1, 1));
        Check.nothingThere("city -1", game, () -> game.order(-1, 0, 0, 0));
        for (int bad = 0; bad <= 10; bad += 10) {
            int weight = bad;
            Check.badArgument("food", game, () -> game.order(0, weight, 1, 1));
            Check.badArgument("work", game, () -> game.order(0, 1, weight, 1));
            Check.badArgument("trade", game, () -> game.order(0, 1, 1, weight));
        }
        Check.same("kept", game.plan(0), 1L << 20);
    }

    private static void queues() {
        EmpireTurns game = new EmpireTurns();
        Games.city(game, 0, 19);
        for (int i = 0; i < 6; i++) {
            Check.same("queue", game.queue(0, 9 - i), i + 1);
        }
        Check.badState("a seventh", game, () -> game.queue(0, 0));
        Check.nothingThere("city 1", game, () -> game.queue(1, 10));
        Check.badArgument("work 10, before the full queue", game, () -> game.queue(0, 10));
        Check.badArgument("work -1", game, () -> game.queue(0, -1));
        Check.nothingThere("city 1", game, () -> game.unqueue(1, -1));
        Check.badArgument("place 6", game, () -> game.unqueue(0, 6));
        Check.badArgument("place -1", game, () -> game.unqueue(0, -1));
        Check.same("first", game.city(0, 7), 9);
        Check.same("middle", game.unqueue(0, 2), 7);
        Check.same("the next took its place", game.unqueue(0, 2), 6);
        Check.same("last", game.unqueue(0, 3), 4);
        Check.badArgument("behind the last", game, () -> game.unqueue(0, 3));
        Check.same("first", game.unqueue(0, 0), 9);
        Check.same("then first", game.city(0, 7), 8);
        Check.same("behind", game.queue(0, 8), 3);
        Check.same("first", game.unqueue(0, 0), 8);
        Check.same("first", game.unqueue(0, 0), 5);
        Check.same("first", game.unqueue(0, 0), 8);
        Check.same("none", game.city(0, 7), EmpireTurns.NONE);
        Check.badArgument("empty", game, () -> game.unqueue(0, 0));
    }

    private static void hurry() {
        EmpireTurns game = new EmpireTurns();
        Games.layAll(game, EmpireTurns.SEA);
        game.lay(19, EmpireTurns.PLAIN);
        Games.city(game, 0, 19);
        Check.nothingThere("city 1", game, () -> game.hurry(1));
        Check.badState("an empty queue", game, () -> game.hurry(0));
        Games.saveUp(game, 0, 22, 20);
        // The trade is 1 at first, then 3 with a tile of SEA; the work is 1 each turn.
        Check.same("coins", game.player(0, 0), 22);
        Check.same("work", game.city(0, 4), 8);
        game.queue(0, EmpireTurns.MARKET);
        Check.badState("16 lack, 32 coins", game, () -> game.hurry(0));
        game.unqueue(0, 0);
        game.queue(0, EmpireTurns.GUARD);
        Check.same("4 lack", game.hurry(0), 8);
        Check.same("coins", game.player(0, 0), 14);
        Check.same("ledger", game.ledger(0, 7), 8);
        Check.same("store", game.city(0, 4), 12);
        Check.badState("nothing lacks", game, () -> game.hurry(0));
        game.unqueue(0, 0);
        game.queue(0, EmpireTurns.RAM);
        Check.badState("12 lack, 24 coins of 14", game, () -> game.hurry(0));
        game.unqueue(0, 0);
        game.queue(0, EmpireTurns.RIDER);
        Check.same("all but 2 coins", game.hurry(0), 12);
        Check.same("coins", game.player(0, 0), 2);
        Check.same("ledger", game.ledger(0, 7), 20);
        game.unqueue(0, 0);
        game.queue(0, EmpireTurns.GUARD);
        Check.badState("more than enough is there", game, () -> game.hurry(0));
        game.unqueue(0, 0);
        game.queue(0, EmpireTurns.SETTLER);
        Check.badState("2 lack, 4 coins of 2", game, () -> game.hurry(0));
        game.endTurn();
        Check.same("one lacks, all that is there", game.hurry(0), 2);
    }

    private static void city() {
        EmpireTurns game = new EmpireTurns();
        Games.city(game, 0, 19);
        Check.nothingThere("city 1", game, () -> game.city(1, 99));
        Check.nothingThere("city -1", game, () -> game.city(-1, 0));
        Check.badArgument("what 11", game, () -> game.city(0, 11));
        Check.badArgument("what -1", game, () -> game.city(0, -1));
        game.queue(0, EmpireTurns.WALLS);
        game.queue(0, EmpireTurns.TEMPLE);
        Check.same("first of its queue", game.city(0, 7), EmpireTurns.WALLS);
        game.endTurn();
        // PLAIN 2, 1, 0 besides its own 2, 1, 1.
        Check.same("food", game.city(0, 8), 4);
        Check.same("work", game.city(0, 9), 2);
        Check.same("trade", game.city(0, 10), 1);
        Check.same("store of work", game.city(0, 4), 1);
        Check.same("culture", game.city(0, 5), 6);
    }

    private static void ownTile() {
        int[][] due = {{2, 1, 1}, {2, 2, 1}, {2, 2, 1}, {2, 1, 1}, {3, 1, 1}};
        for (int land = EmpireTurns.PLAIN; land <= EmpireTurns.RIVER; land++) {
            EmpireTurns game = new EmpireTurns();
            game.lay(19, land);
            Games.city(game, 0, 19);
            for (int i = 0; i < 3; i++) {
                Check.same("own tile of land " + land, game.city(0, 8 + i), due[land - 1][i]);
            }
        }
    }
}
