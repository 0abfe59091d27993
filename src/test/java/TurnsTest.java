/** Promise 21, and 25 to 28: endTurn, tile, pull, player and ledger. */
public final class TurnsTest {
    public static void main(String[] args) {
        turns();
        growth();
        granary();
        hunger();
        works();
        stuckWorks();
        smallCity();
        fortyUnits();
        temple();
        market();
        upkeep();
        forgiven();
        pulls();
        tiesStay();
        tilesOfCities();
        supply();
        noBorders();
        asked();
        Check.finish("TurnsTest");
    }

    private static void turns() {
        EmpireTurns game = new EmpireTurns();
        for (int turn = 1; turn <= 20; turn++) {
            Check.same("turn", game.endTurn(), turn);
        }
    }

    /** With PLAIN alone the store gets 2 each turn from the second one on. */
    private static void growth() {
        EmpireTurns game = new EmpireTurns();
        Games.city(game, 0, 19);
        Games.endTurns(game, 8);
        Check.same("14 of 15", game.city(0, 3), 14);
        Check.same("size", game.city(0, 2), 1);
        game.endTurn();
        Check.same("15 are taken out", game.city(0, 3), 1);
        Check.same("size", game.city(0, 2), 2);
        Games.endTurns(game, 9);
        Check.same("19 of 20", game.city(0, 3), 19);
        Check.same("size", game.city(0, 2), 2);
        game.endTurn();
        Check.same("20 are taken out", game.city(0, 3), 1);
        Check.same("size", game.city(0, 2), 3);
        Check.same("works without a queue are kept", game.city(0, 4), 1 + 8 * 2 + 10 * 3);
    }

    private static void granary() {
        EmpireTurns game = new EmpireTurns();
        Games.city(game, 0, 19);
        game.setParts(0, 100);
        game.learn(0, 0);
        game.queue(0, EmpireTurns.GRANARY);
        Games.endTurns(game, 12);
        Check.same("learned behind the works", game.player(0, 3), 1);
        Check.same("so not made yet", game.city(0, 6), 0);
        Check.same("store", game.city(0, 4), 1 + 8 * 2 + 3 * 3);
        game.endTurn();
        Check.same("made", game.city(0, 6), 1 << EmpireTurns.GRANARY);
        Check.same("the cost is taken out", game.city(0, 4), 26 + 3 - 16);
        game.setParts(0, 0);
        Games.endTurns(game, 6);
        Check.same("half of 20 comes back", game.city(0, 3), 21 - 20 + 10);
        Check.same("size", game.city(0, 2), 3);
        Games.endTurns(game, 7);
        Check.same("half of 25, rounded down, comes back", game.city(0, 3), 25 - 25 + 12);
        Check.same("size", game.city(0, 2), 4);
    }

    private static void hunger() {
        EmpireTurns game = new EmpireTurns();
        Games.layAll(game, EmpireTurns.DESERT);
        game.lay(18, EmpireTurns.RIVER);
        game.lay(20, EmpireTurns.RIVER);
        Games.city(game, 0, 19);
        Games.city(game, 1, 40);
        int one = game.place(1, EmpireTurns.WORKER, 16);
        int other = game.place(1, EmpireTurns.WORKER, 23);
        game.order(0, 9, 1, 1);
        Games.endTurns(game, 6);
        Check.same("3 each turn but the first", game.city(0, 3), 0);
        Check.same("size", game.city(0, 2), 2);
        game.endTurn();
        Check.same("2 and 6 less 4", game.city(0, 3), 4);
        game.step(one, 1, 0);
        game.step(one, 1, 0);
        game.step(other, -1, 0);
        game.step(other, -1, 0);
        Check.same("5 less 4", game.city(0, 8), 5);
        game.endTurn();
        Check.same("one more", game.city(0, 3), 5);
        game.step(other, -1, 0);
        Check.same("2 less 4", game.city(0, 8), 2);
        Games.endTurns(game, 2);
        Check.same("hunger", game.city(0, 3), 1);
        Check.same("not below 0 yet", game.city(0, 2), 2);
        game.endTurn();
        Check.same("below 0 it is 0", game.city(0, 3), 0);
        Check.same("and the size 1 less", game.city(0, 2), 1);
        game.endTurn();
        Check.same("2 less 2", game.city(0, 3), 0);
        Check.same("at least 1", game.city(0, 2), 1);
    }

    private static void works() {
        EmpireTurns game = new EmpireTurns();
        Games.city(game, 0, 19);
        game.queue(0, EmpireTurns.SETTLER);
        Games.endTurns(game, 8);
        Check.same("15", game.city(0, 4), 15);
        Games.endTurns(game, 2);
        // The turn 9 brings the size 2 and 17; the turn 10 brings 20, and the settler takes its size.
        Check.same("no rest", game.city(0, 4), 0);
        Check.same("size", game.city(0, 2), 1);
        Check.same("settler", game.unit(1, 1), EmpireTurns.SETTLER);
        Check.same("its tile", game.unit(1, 2), 19);
        Check.same("its owner", game.unit(1, 0), 0);
        Check.same("its moves", game.unit(1, 4), 2);
        Check.same("its health", game.unit(1, 3), 10);
        Check.same("the queue is empty", game.city(0, 7), EmpireTurns.NONE);
        game.queue(0, EmpireTurns.WORKER);
        game.queue(0, EmpireTurns.GUARD);
        Games.endTurns(game, 6);
        Check.same("12 of 15", game.city(0, 4), 12);
        Check.same("the size is 2 again", game.city(0, 2), 2);
        game.endTurn();
        Check.same("none is left", game.city(0, 4), 0);
        game.endTurn();
        Check.same("for the next one", game.city(0, 4), 3);
        Check.same("worker", game.unit(2, 1), EmpireTurns.WORKER);
        Check.same("next", game.city(0, 7), EmpireTurns.GUARD);
        Check.same("on the tile", game.unitsOn(19), 2);
    }

    /** With RIVER alone the work is 1 each turn, and there are enough coins. */
    private static void stuckWorks() {
        EmpireTurns game = new EmpireTurns();
        Games.layAll(game, EmpireTurns.RIVER);
        Games.city(game, 0, 19);
        game.setParts(0, 0);
        for (int i = 0; i < 4; i++) {
            game.queue(0, EmpireTurns.GUARD);
        }
        game.queue(0, EmpireTurns.RIDER);
        Games.endTurns(game, 13);
        Check.same("the rest is carried", game.city(0, 4), 1);
        Check.same("a guard", game.unitsOn(19), 1);
        Games.endTurns(game, 57);
        Check.same("4 guards", game.unitsOn(19), 4);
        Check.same("a rider without the craft 1", game.city(0, 7), EmpireTurns.RIDER);
        Check.same("the store stays", game.city(0, 4), 70 - 48);
        game.unqueue(0, 0);
        game.queue(0, EmpireTurns.GUARD);
        game.endTurn();
        Check.same("a fifth does not go there", game.city(0, 7), EmpireTurns.GUARD);
        Check.same("the store stays", game.city(0, 4), 23);
        game.step(1, 1, 0);
        game.endTurn();
        Check.same("then it does", game.city(0, 7), EmpireTurns.NONE);
        Check.same("and the store pays", game.city(0, 4), 24 - 12);
        Games.endTurns(game, 50);
        game.queue(0, EmpireTurns.TEMPLE);
        game.queue(0, EmpireTurns.TEMPLE);
        game.queue(0, EmpireTurns.GUARD);
        game.endTurn();
        Check.same("one work a turn", game.city(0, 4), 63 - 14);
        Check.same("made", game.city(0, 6), 1 << EmpireTurns.TEMPLE);
        Games.endTurns(game, 3);
        Check.same("a building that is there", game.city(0, 7), EmpireTurns.TEMPLE);
        game.unqueue(0, 0);
        game.unqueue(0, 0);
        game.queue(0, EmpireTurns.WALLS);
        game.endTurn();
        Check.same("a building without the craft", game.city(0, 7), EmpireTurns.WALLS);
        Check.same("the store stays", game.city(0, 4), 49 + 4);
    }

    private static void smallCity() {
        EmpireTurns game = new EmpireTurns();
        Games.layAll(game, EmpireTurns.DESERT);
        Games.city(game, 0, 19);
        game.queue(0, EmpireTurns.SETTLER);
        Games.endTurns(game, 15);
        Check.same("the size is 1", game.city(0, 2), 1);
        Check.same("which a SETTLER cannot take", game.city(0, 7), EmpireTurns.SETTLER);
        Check.same("the store stays", game.city(0, 4), 1 + 14 * 2);
        Check.same("nobody is there", game.unitsOn(19), 0);
    }

    private static void fortyUnits() {
        EmpireTurns game = new EmpireTurns();
        Games.layAll(game, EmpireTurns.RIVER);
        for (int i = 0; i < 9; i++) {
            Games.city(game, 0, 3 * (i % 3) + 24 * (i / 3));
        }
        for (int i = 0; i < 27; i++) {
            game.place(0, EmpireTurns.WORKER, 9 + i / 4);
        }
        game.setParts(0, 0);
        game.endTurn();
        Check.same("18 are free, 9 are paid", game.ledger(0, 4), 9);
        Check.same("none is gone", units(game), 27);
        Games.endTurns(game, 60);
        Check.holds("rich", game.player(0, 0) > 200);
        for (int i = 0; i < 9; i++) {
            game.queue(i, EmpireTurns.GUARD);
            game.queue(i, EmpireTurns.GUARD);
        }
        game.endTurn();
        Check.same("9 more", units(game), 36);
        game.endTurn();
        Check.same("40 in all", units(game), 40);
        for (int i = 0; i < 9; i++) {
            Check.same("by rising cities", game.city(i, 7), i < 4 ? EmpireTurns.NONE : EmpireTurns.GUARD);
        }
        Games.endTurns(game, 3);
        Check.same("still 40", units(game), 40);
        for (int i = 4; i < 9; i++) {
            game.unqueue(i, 0);
            game.queue(i, EmpireTurns.TEMPLE);
        }
        game.endTurn();
        Check.same("but buildings", game.city(8, 6), 1 << EmpireTurns.TEMPLE);
    }

    private static int units(EmpireTurns game) {
        int units = 0;
        for (int tile = 0; tile < 64; tile++) {
            units += game.unitsOn(tile);
        }
        return units;
    }

    private static void temple() {
        EmpireTurns game = new EmpireTurns();
        Games.city(game, 0, 19);
        game.setParts(0, 0);
        game.queue(0, EmpireTurns.TEMPLE);
        Games.endTurns(game, 7);
        Check.same("13 of 14", game.city(0, 4), 13);
        Check.same("culture", game.city(0, 5), 12);
        game.endTurn();
        Check.same("made", game.city(0, 6), 1 << EmpireTurns.TEMPLE);
        Check.same("2 more in that turn already", game.city(0, 5), 15);
        game.endTurn();
        Check.same("1, and 2", game.city(0, 5), 18);
        Check.same("upkeep", game.ledger(0, 4), 2);
        Check.same("coins", game.player(0, 0), 9 - 2);
    }

    private static void market() {
        EmpireTurns game = new EmpireTurns();
        Games.layAll(game, EmpireTurns.RIVER);
        Games.city(game, 0, 19);
        game.queue(0, EmpireTurns.MARKET);
        Games.learnBy(game, 0, 5, 60);
        Games.endTurns(game, 30);
        Check.same("made", game.city(0, 6), 1 << EmpireTurns.MARKET);
        for (int parts = 0; parts <= 100; parts += 25) {
            game.setParts(0, parts);
            int coins = game.ledger(0, 0);
            int learned = game.player(0, 1);
            int trade = game.city(0, 10);
            int learning = trade * parts / 100;
            game.endTurn();
            Check.same("learning", game.player(0, 1) - learned, learning);
            Check.same("the rest and half of it", game.ledger(0, 0) - coins,
                trade - learning + (trade - learning) / 2);
        }
    }

    private static void upkeep() {
        EmpireTurns game = new EmpireTurns();
        Games.city(game, 0, 19);
        game.setParts(0, 0);
        for (int i = 1; i <= 5; i++) {
            Check.same("unit", game.place(0, EmpireTurns.WORKER, 19 + i / 4), i);
        }
        int other = game.place(1, EmpireTurns.WORKER, 50);
        game.endTurn();
        // 3 above 2, and 1 coin: two are gone, and 1 is paid.
        Check.holds("the highest are gone", !Games.isThere(game, 5) && !Games.isThere(game, 4));
        Check.holds("others are there", Games.isThere(game, 3) && Games.isThere(game, 1));
        Check.holds("without a city each costs 1", !Games.isThere(game, other));
        Check.same("coins", game.player(0, 0), 0);
        Check.same("from trade", game.ledger(0, 0), 1);
        Check.same("upkeep", game.ledger(0, 4), 1);
        Check.same("nothing is forgiven", game.ledger(0, 3), 0);
        Check.same("nor for him who has none", game.ledger(1, 3) + game.ledger(1, 4), 0);
        game.endTurn();
        Check.same("enough", game.unitsOn(19), 3);
        Check.same("upkeep", game.ledger(0, 4), 2);
    }

    private static void forgiven() {
        EmpireTurns game = new EmpireTurns();
        Games.city(game, 0, 19);
        int free = game.place(0, EmpireTurns.WORKER, 19);
        game.setParts(0, 100);
        game.queue(0, EmpireTurns.TEMPLE);
        Games.endTurns(game, 7);
        Check.holds("free", Games.isThere(game, free));
        game.endTurn();
        Check.holds("gone for the TEMPLE, whatever it cost", !Games.isThere(game, free));
        Check.same("1 less is to be paid", game.ledger(0, 4), 0);
        Check.same("nothing is forgiven", game.ledger(0, 3), 0);
        game.endTurn();
        Check.same("forgiven", game.ledger(0, 3), 1);
        Check.same("upkeep with it", game.ledger(0, 4), 1);
        Check.same("coins", game.player(0, 0), 0);
        game.setParts(0, 0);
        game.endTurn();
        Check.same("paid", game.ledger(0, 4), 2);
        Check.same("not forgiven", game.ledger(0, 3), 1);
    }

    private static void pulls() {
        EmpireTurns game = new EmpireTurns();
        Games.city(game, 0, 27);
        Games.city(game, 0, 30);
        Games.city(game, 1, 51);
        Check.same("distance 0", game.pull(0, 27), 20 + 20 / 16);
        Check.same("distance 1, and 4", game.pull(0, 26), 20 / 4);
        Check.same("distances 1 and 2, each rounded down", game.pull(0, 28), 20 / 4 + 20 / 9);
        Check.same("distance 3", game.pull(0, 24), 20 / 16);
        Check.same("distance 4", game.pull(0, 59), 0);
        Check.same("another one", game.pull(1, 27), 20 / 16);
        Check.same("none", game.pull(2, 27), 0);
        Check.badArgument("player 4", game, () -> game.pull(4, 0));
        Check.badArgument("player -1", game, () -> game.pull(-1, 0));
        Check.badArgument("tile 64", game, () -> game.pull(0, 64));
        Check.badArgument("tile -1", game, () -> game.pull(0, -1));
        game.endTurn();
        for (int tile = 0; tile < 64; tile++) {
            int one = game.pull(0, tile);
            int other = game.pull(1, tile);
            int due = one == other ? EmpireTurns.NONE : one > other ? 0 : 1;
            Check.same("whose " + tile + " is", game.tile(tile, 2), due);
        }
        Check.same("together", game.pull(0, 35), 24 / 4 + 24 / 16);
    }

    private static void tiesStay() {
        EmpireTurns game = new EmpireTurns();
        Games.city(game, 0, 24);
        Games.city(game, 1, 62);
        int settler = game.place(1, EmpireTurns.SETTLER, 30);
        Games.endTurns(game, 3);
        game.found(settler);
        Check.same("0 has it", game.tile(27, 2), 0);
        Games.endTurns(game, 2);
        Check.same("10 / 4", game.pull(0, 27), 2);
        Check.same("7 / 4", game.pull(1, 27), 1);
        game.endTurn();
        Check.same("11 / 4", game.pull(0, 27), 2);
        Check.same("8 / 4", game.pull(1, 27), 2);
        Check.same("alike, it stays", game.tile(27, 2), 0);
        EmpireTurns both = new EmpireTurns();
        Games.city(both, 0, 24);
        Games.city(both, 1, 30);
        Games.city(both, 2, 0);
        Games.endTurns(both, 20);
        Check.same("alike, and nobody's before", both.tile(27, 2), EmpireTurns.NONE);
        Check.same("three alike", both.tile(11, 2), EmpireTurns.NONE);
    }

    /** Two players hold each other off a tile until a third one founds a city there. */
    private static void tilesOfCities() {
        EmpireTurns game = Games.foundedBetweenOldOnes();
        Games.endTurns(game, 3);
        Check.same("pull of its owner", game.pull(2, 27), 4 * 8);
        Check.same("pull of another one", game.pull(0, 27), 2 * (4 * 68 / 16));
        Check.same("always its owner's", game.tile(27, 2), 2);
        Check.same("not the tiles beside it", game.tile(19, 2), EmpireTurns.NONE);
    }

    private static void supply() {
        EmpireTurns game = new EmpireTurns();
        Games.city(game, 0, 0);
        Games.city(game, 1, 27);
        int near = game.place(0, EmpireTurns.GUARD, 6);
        int far = game.place(0, EmpireTurns.GUARD, 7);
        game.endTurn();
        Check.same("the last tile of 0", game.tile(2, 2), 0);
        Check.same("is nobody's", game.tile(3, 2), EmpireTurns.NONE);
        Check.same("4 away", game.unit(near, 3), 10);
        Check.same("5 away", game.unit(far, 3), 9);
        Games.endTurns(game, 4);
        Check.same("5 turns", game.unit(far, 3), 5);
        game.step(far, -1, 0);
        Check.same("moves", game.unit(far, 4), 1);
        game.endTurn();
        Check.same("one more", game.unit(far, 3), 6);
        Check.same("moves come back", game.unit(far, 4), 2);
        game.step(far, 1, 0);
        Games.endTurns(game, 5);
        Check.same("the last one", game.unit(far, 3), 1);
        game.endTurn();
        Check.holds("gone", !Games.isThere(game, far));
        Check.same("up to 10", game.unit(near, 3), 10);
    }

    private static void noBorders() {
        EmpireTurns game = new EmpireTurns();
        Games.city(game, 2, 36);
        int worker = game.place(2, EmpireTurns.WORKER, 37);
        int rider = game.place(1, EmpireTurns.RIDER, 28);
        Games.city(game, 1, 7);
        game.setParts(2, 0);
        Games.endTurns(game, 2);
        game.step(rider, 0, 1);
        Check.same("destroyed", game.tile(36, 3), EmpireTurns.NONE);
        Check.same("coins", game.player(2, 0), 2);
        game.endTurn();
        Check.same("no borders", game.unit(worker, 3), 9);
        Check.same("it is paid for", game.player(2, 0), 1);
        Check.holds("not its tile", game.tile(36, 2) != 2);
        Games.endTurns(game, 2);
        Check.holds("not any more", !Games.isThere(game, worker));
    }

    private static void asked() {
        EmpireTurns game = new EmpireTurns();
        Games.city(game, 0, 19);
        Games.city(game, 0, 63);
        Check.same("score", game.player(0, 5), 3 * 2 + 2);
        Check.same("cities", game.player(0, 6), 2);
        game.setParts(0, 0);
        Games.endTurns(game, 10);
        Check.same("coins", game.player(0, 0), 20);
        int held = 0;
        int sizes = game.city(0, 2) + game.city(1, 2);
        for (int tile = 0; tile < 64; tile++) {
            held += game.tile(tile, 2) == 0 ? 1 : 0;
        }
        Check.same("score with 1 for 20 coins", game.player(0, 5), 3 * sizes + held + 1);
        int[] out = {-1, 4, Integer.MAX_VALUE};
        for (int player : out) {
            Check.badArgument("player", game, () -> game.player(player, 0));
            Check.badArgument("player", game, () -> game.ledger(player, 0));
        }
        Check.badArgument("what -1", game, () -> game.player(0, -1));
        Check.badArgument("what 7", game, () -> game.player(0, 7));
        Check.badArgument("what -1", game, () -> game.ledger(0, -1));
        Check.badArgument("what 8", game, () -> game.ledger(0, 8));
        Check.badArgument("tile -1", game, () -> game.tile(-1, 0));
        Check.badArgument("tile 64", game, () -> game.tile(64, 0));
        Check.badArgument("what -1", game, () -> game.tile(0, -1));
        Check.badArgument("what 4", game, () -> game.tile(0, 4));
        game.endTurn();
        Check.same("from trade", game.ledger(0, 0), 22);
    }
}
