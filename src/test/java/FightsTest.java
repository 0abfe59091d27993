/** Promise 17: fights and the taking of cities. */
public final class FightsTest {
    public static void main(String[] args) {
        strengths();
        inCities();
        walls();
        strongest();
        advance();
        attackNeeded();
        movesNeeded();
        nothingBarsFights();
        takes();
        takeDestroys();
        spoils();
        capturedCraft();
        nothingToCapture();
        Check.finish("FightsTest");
    }

    /** The first unit, of the player 0, is on the tile 19, and the other one, of 1, on 20. */
    private static EmpireTurns field(int land, int first, int other) {
        EmpireTurns game = new EmpireTurns();
        game.lay(20, land);
        game.place(0, first, 19);
        game.place(1, other, 20);
        return game;
    }

    private static void strengths() {
        // The strengths are 400 to 400, 600 and 520; 600 to 400; 200 to 400.
        fights(EmpireTurns.PLAIN, EmpireTurns.RIDER, EmpireTurns.GUARD, 10 - 5, 10 - 5);
        fights(EmpireTurns.HILL, EmpireTurns.RIDER, EmpireTurns.GUARD, 10 - 6, 10 - 4);
        fights(EmpireTurns.FOREST, EmpireTurns.RIDER, EmpireTurns.GUARD, 10 - 6, 10 - 4);
        fights(EmpireTurns.DESERT, EmpireTurns.RAM, EmpireTurns.GUARD, 10 - 4, 10 - 6);
        fights(EmpireTurns.RIVER, EmpireTurns.GUARD, EmpireTurns.GUARD, 10 - 7, 10 - 4);
        fights(EmpireTurns.PLAIN, EmpireTurns.RAM, EmpireTurns.WORKER, 10 - 2, 10 - 8);
        fights(EmpireTurns.HILL, EmpireTurns.RAM, EmpireTurns.RAM, 10 - 2, 10 - 8);
        // 600 to 300 and 260.
        fights(EmpireTurns.HILL, EmpireTurns.RAM, EmpireTurns.RIDER, 10 - 4, 10 - 7);
        fights(EmpireTurns.FOREST, EmpireTurns.RAM, EmpireTurns.RIDER, 10 - 3, 10 - 7);
    }

    private static void fights(int land, int first, int other, int firstLeft, int otherLeft) {
        EmpireTurns game = field(land, first, other);
        Check.holds("it stays where it is", !game.step(0, 1, 0));
        Check.same("health of the first", game.unit(0, 3), firstLeft);
        Check.same("health of the other", game.unit(1, 3), otherLeft);
        Check.same("no moves left", game.unit(0, 4), 0);
        Check.same("tile", game.unit(0, 2), 19);
        Check.same("moves of the other", game.unit(1, 4), other == EmpireTurns.RIDER ? 4 : 2);
    }

    private static void inCities() {
        EmpireTurns game = new EmpireTurns();
        game.lay(20, EmpireTurns.HILL);
        Games.city(game, 1, 20);
        int ram = game.place(0, EmpireTurns.RAM, 19);
        int guard = game.place(1, EmpireTurns.GUARD, 20);
        game.step(ram, 1, 0);
        // 600 to 40 times 18: 9 * 720 / 1320 and 9 * 600 / 1320.
        Check.same("first", game.unit(ram, 3), 10 - 5);
        Check.same("other", game.unit(guard, 3), 10 - 5);
    }

    private static void walls() {
        EmpireTurns game = new EmpireTurns();
        Games.layAll(game, EmpireTurns.FOREST);
        game.lay(20, EmpireTurns.PLAIN);
        Games.city(game, 1, 20);
        Games.city(game, 0, 63);
        int ram = game.place(0, EmpireTurns.RAM, 12);
        int guard = game.place(1, EmpireTurns.GUARD, 20);
        game.queue(0, EmpireTurns.WALLS);
        Games.endTurns(game, 8);
        Check.same("not without the craft 2", game.city(0, 6), 0);
        Games.learnBy(game, 1, 2, 40);
        game.setParts(1, 0);
        game.endTurn();
        Check.same("walls", game.city(0, 6), 1 << EmpireTurns.WALLS);
        Check.same("in health", game.unit(ram, 3) + game.unit(guard, 3), 20);
        game.step(ram, 0, 1);
        // 600 to 40 times 21: 9 * 840 / 1440 and 9 * 600 / 1440.
        Check.same("first", game.unit(ram, 3), 10 - 6);
        Check.same("other", game.unit(guard, 3), 10 - 4);
    }

    private static void strongest() {
        EmpireTurns game = new EmpireTurns();
        int[] rams = new int[4];
        for (int i = 0; i < 4; i++) {
            rams[i] = game.place(0, EmpireTurns.RAM, 19);
        }
        int worker = game.place(1, EmpireTurns.WORKER, 20);
        int rider = game.place(1, EmpireTurns.RIDER, 20);
        int low = game.place(1, EmpireTurns.GUARD, 20);
        int high = game.place(1, EmpireTurns.GUARD, 20);
        game.step(rams[0], 1, 0);
        Check.same("the lowest of the strongest", game.unit(low, 3), 10 - 6);
        Check.same("not the other one", game.unit(high, 3), 10);
        game.step(rams[1], 1, 0);
        Check.same("the other one is stronger then", game.unit(high, 3), 10 - 6);
        // GUARDs have 16 each, the RIDER 20: 600 to 200.
        game.step(rams[2], 1, 0);
        Check.same("then the rider", game.unit(rider, 3), 10 - 7);
        Check.same("health of the ram", game.unit(rams[2], 3), 10 - 3);
        game.step(rams[3], 1, 0);
        // 600 to 160: 1 + 7 of 4 are gone.
        Check.holds("then the lowest of alike ones", !Games.isThere(game, low));
        Check.same("others are there", game.unitsOn(20), 3);
        Check.same("it stays", game.unit(rams[3], 2), 19);
        Check.same("the worker is well", game.unit(worker, 3), 10);
    }

    private static void advance() {
        EmpireTurns game = new EmpireTurns();
        game.lay(20, EmpireTurns.HILL);
        int first = game.place(0, EmpireTurns.RAM, 19);
        int second = game.place(0, EmpireTurns.RAM, 19);
        game.place(1, EmpireTurns.WORKER, 20);
        Check.holds("2 of 10 are left", !game.step(first, 1, 0));
        Check.holds("it steps there", game.step(second, 1, 0));
        Check.same("tile", game.unit(second, 2), 20);
        Check.same("no moves", game.unit(second, 4), 0);
        Check.same("alone", game.unitsOn(20), 1);
        EmpireTurns lost = field(EmpireTurns.PLAIN, EmpireTurns.GUARD, EmpireTurns.GUARD);
        int again = lost.place(0, EmpireTurns.GUARD, 19);
        lost.step(0, 1, 0);
        lost.step(again, 1, 0);
        int third = lost.place(0, EmpireTurns.GUARD, 11);
        // 6 and then 6 less 1 and 9 * 200 / 440: the guard has 1 left, and 200 to 40 follows.
        Check.same("other", lost.unit(1, 3), 1);
        Check.holds("it steps there", lost.step(third, 1, 1));
        Check.same("lost 1 and 9 * 40 / 240", lost.unit(third, 3), 8);
        bothGone();
    }

    private static void bothGone() {
        EmpireTurns game = field(EmpireTurns.PLAIN, EmpireTurns.RIDER, EmpireTurns.GUARD);
        Games.city(game, 0, 40);
        Games.city(game, 1, 47);
        game.step(0, 1, 0);
        game.endTurn();
        // Both have 6 left: 240 to 240, and each loses 1 and 4.
        game.step(0, 1, 0);
        Check.same("first", game.unit(0, 3), 1);
        game.endTurn();
        Check.holds("gone", !game.step(0, 1, 0));
        Check.holds("both are gone", !Games.isThere(game, 0) && !Games.isThere(game, 1));
        Check.same("nobody is there", game.unitsOn(20) + game.unitsOn(19), 0);
    }

    private static void attackNeeded() {
        for (int kind = EmpireTurns.SETTLER; kind <= EmpireTurns.WORKER; kind++) {
            EmpireTurns game = field(EmpireTurns.PLAIN, kind, EmpireTurns.WORKER);
            Check.badState("no attack", game, () -> game.step(0, 1, 0));
            Games.city(game, 1, 27);
            Check.badState("nor a city", game, () -> game.step(0, 0, 1));
        }
    }

    private static void movesNeeded() {
        EmpireTurns game = new EmpireTurns();
        game.lay(20, EmpireTurns.FOREST);
        game.lay(18, EmpireTurns.HILL);
        int guard = game.place(0, EmpireTurns.GUARD, 11);
        game.place(1, EmpireTurns.WORKER, 20);
        Games.city(game, 1, 18);
        game.step(guard, 0, 1);
        Check.badState("a fight needs 2 moves", game, () -> game.step(guard, 1, 0));
        Check.badState("taking a city needs 2 moves", game, () -> game.step(guard, -1, 0));
        int rider = game.place(0, EmpireTurns.RIDER, 19);
        game.step(rider, -1, 0);
        Check.same("taking costs what a step costs", game.unit(rider, 4), 2);
    }

    private static void nothingBarsFights() {
        EmpireTurns game = new EmpireTurns();
        Games.city(game, 2, 20);
        Games.city(game, 0, 62);
        int rider = game.place(0, EmpireTurns.RIDER, 17);
        game.place(1, EmpireTurns.RAM, 18);
        game.place(1, EmpireTurns.RAM, 9);
        Games.city(game, 1, 56);
        game.endTurn();
        Check.same("borders of the third one", game.tile(18, 2), 2);
        Games.agree(game, 0, 2, EmpireTurns.PEACE, 9, 0);
        Check.badState("they bar a step", game, () -> game.step(rider, 1, 1));
        game.step(rider, 1, 0);
        Check.same("but no fight", game.unit(rider, 4), 0);
        game.endTurn();
        Check.holds("nor the step behind it, and no zone does", game.step(rider, 1, 0));
        Check.same("tile", game.unit(rider, 2), 18);
    }

    /** A city of the size 2 of the player 1 on the tile 20, with 3 works and something in its stores. */
    private static EmpireTurns grown() {
        EmpireTurns game = new EmpireTurns();
        Games.city(game, 1, 20);
        Games.city(game, 1, 7);
        Games.city(game, 0, 41);
        game.place(0, EmpireTurns.RIDER, 32);
        Games.endTurns(game, 9);
        game.queue(0, EmpireTurns.MARKET);
        game.queue(0, EmpireTurns.GUARD);
        Check.same("size", game.city(0, 2), 2);
        return game;
    }

    private static void takes() {
        EmpireTurns game = grown();
        int rider = 3;
        Check.same("the rider", game.unit(rider, 1), EmpireTurns.RIDER);
        int culture = game.city(0, 5);
        Check.holds("work is in the store", game.city(0, 4) > 0);
        game.step(rider, 1, -1);
        game.step(rider, 1, -1);
        Check.holds("near", game.step(rider, 1, 0));
        game.endTurn();
        int store = game.city(0, 3);
        Check.holds("it takes the city", game.step(rider, 1, 0));
        Check.same("owner", game.city(0, 0), 0);
        Check.same("size", game.city(0, 2), 1);
        Check.same("food stays", game.city(0, 3), store);
        Check.same("no work", game.city(0, 4), 0);
        Check.same("no queue", game.city(0, 7), EmpireTurns.NONE);
        Check.same("culture stays", game.city(0, 5), culture + 1);
        Check.same("moves", game.unit(rider, 4), 3);
        Check.same("its tile", game.tile(20, 2), 0);
        Check.same("its tile alone", game.tile(21, 2), 1);
        Check.same("cities", game.player(0, 6), 2);
        Check.same("cities", game.player(1, 6), 1);
        game.endTurn();
        Check.same("pulls for its owner", game.tile(21, 2), 0);
        Check.same("queue of 1", game.queue(0, EmpireTurns.GUARD), 1);
    }

    private static void takeDestroys() {
        EmpireTurns game = new EmpireTurns();
        Games.city(game, 1, 20);
        Games.city(game, 1, 63);
        Games.city(game, 0, 57);
        int rider = game.place(0, EmpireTurns.RIDER, 19);
        Games.saveUp(game, 1, 6, 5);
        int coins = game.player(1, 0);
        Check.holds("coins", coins > 4);
        Check.holds("on the tile", game.step(rider, 1, 0));
        Check.nothingThere("destroyed", game, () -> game.city(0, 0));
        Check.same("no city on it", game.tile(20, 3), EmpireTurns.NONE);
        Check.same("the tile stays", game.tile(20, 2), 1);
        Check.same("no coins", game.player(0, 0) - game.ledger(0, 0), 0);
        Check.same("no coins", game.player(1, 0), coins);
        Check.same("no ledger", game.ledger(0, 2) + game.ledger(1, 6), 0);
        Check.same("cities", game.player(1, 6), 1);
        Check.same("another city keeps its number", game.city(1, 1), 63);
        game.endTurn();
        Check.same("nobody's", game.tile(20, 2), EmpireTurns.NONE);
    }

    private static void spoils() {
        EmpireTurns game = grown();
        int coins = game.player(1, 0);
        int mine = game.player(0, 0);
        int rider = 3;
        game.step(rider, 1, -1);
        game.step(rider, 1, -1);
        game.step(rider, 1, 0);
        Check.same("tile", game.unit(rider, 2), 19);
        Check.holds("takes", game.step(rider, 1, 0));
        int spoils = coins / 4;
        Check.holds("there is something", spoils > 0 && coins % 4 != 0);
        Check.same("got", game.player(0, 0), mine + spoils);
        Check.same("given", game.player(1, 0), coins - spoils);
        Check.same("ledger got", game.ledger(0, 2), spoils);
        Check.same("ledger given", game.ledger(1, 6), spoils);
        Check.same("no moves left", game.unit(rider, 4), 0);
    }

    private static void capturedCraft() {
        EmpireTurns game = new EmpireTurns();
        game.need(2, 0);
        game.need(3, 2);
        Games.layAll(game, EmpireTurns.SEA);
        for (int tile = 16; tile < 24; tile++) {
            game.lay(tile, EmpireTurns.PLAIN);
        }
        game.lay(63, EmpireTurns.PLAIN);
        Games.city(game, 1, 16);
        Games.city(game, 1, 20);
        Games.city(game, 0, 63);
        int rider = game.place(0, EmpireTurns.RIDER, 23);
        game.setParts(0, 0);
        Games.learnBy(game, 1, 0, 40);
        Games.learnBy(game, 1, 2, 40);
        Games.learnBy(game, 1, 3, 40);
        Games.learnBy(game, 1, 5, 40);
        Games.learnBy(game, 1, 4, 40);
        Check.same("the loser knows", game.player(1, 3), 61);
        game.offer(1, 0, EmpireTurns.CRAFT, 1, 0);
        game.agree(1, 0);
        game.learn(0, 2);
        Check.holds("large", game.city(0, 2) > 1 && game.city(1, 2) > 1);
        for (int i = 0; i < 10 && game.player(0, 6) == 1; i++) {
            game.endTurn();
            game.step(rider, -1, 0);
        }
        Check.same("the lowest that can be learned", game.player(0, 3), 5);
        Check.same("the goal is none", game.player(0, 2), EmpireTurns.NONE);
        Check.same("the loser knows it still", game.player(1, 3), 61);
    }

    /** The loser knows the craft 1 alone, for it came to need 0 when it was the goal already. */
    private static void nothingToCapture() {
        EmpireTurns game = new EmpireTurns();
        game.learn(1, 1);
        game.need(1, 0);
        Games.layAll(game, EmpireTurns.SEA);
        game.lay(19, EmpireTurns.PLAIN);
        game.lay(20, EmpireTurns.PLAIN);
        game.lay(16, EmpireTurns.PLAIN);
        Games.city(game, 1, 20);
        Games.city(game, 0, 16);
        int rider = game.place(0, EmpireTurns.RIDER, 19);
        game.setParts(1, 100);
        Games.endTurns(game, 12);
        Check.same("the loser knows", game.player(1, 3), 2);
        Check.holds("takes", game.step(rider, 1, 0));
        Check.same("owner", game.city(0, 0), 0);
        Check.same("one that cannot be learned is not captured", game.player(0, 3), 0);
    }
}
