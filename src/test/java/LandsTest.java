/** Promises 1 to 4: a new object, lay, need and place. */
public final class LandsTest {
    public static void main(String[] args) {
        newObject();
        lay();
        layRefused();
        need();
        place();
        placeRefused();
        Check.finish("LandsTest");
    }

    private static void newObject() {
        EmpireTurns game = new EmpireTurns();
        for (int tile = 0; tile < 64; tile++) {
            Check.same("land", game.tile(tile, 0), EmpireTurns.PLAIN);
            Check.same("made", game.tile(tile, 1), 0);
            Check.same("holder", game.tile(tile, 2), EmpireTurns.NONE);
            Check.same("city on it", game.tile(tile, 3), EmpireTurns.NONE);
            Check.same("units on it", game.unitsOn(tile), 0);
        }
        for (int player = 0; player < 4; player++) {
            for (int what = 0; what < 7; what++) {
                Check.same("player's " + what, game.player(player, what), what == 2 ? EmpireTurns.NONE : 0);
            }
            for (int what = 0; what < 8; what++) {
                Check.same("ledger's " + what, game.ledger(player, what), 0);
            }
            for (int other = 0; other < 4; other++) {
                Check.holds("at war", game.atWar(player, other) == (player != other));
            }
            Check.same("parts", game.setParts(player, 50), 50);
        }
        Check.nothingThere("city", game, () -> game.city(0, 0));
        Check.nothingThere("unit", game, () -> game.unit(0, 0));
        Check.nothingThere("treaty", game, () -> game.treaty(0, 0));
        Check.nothingThere("offer", game, () -> game.agree(0, 1));
        Check.same("the turn before was 0", game.endTurn(), 1);
    }

    private static void lay() {
        EmpireTurns game = new EmpireTurns();
        Check.same("lay", game.lay(0, EmpireTurns.SEA), EmpireTurns.PLAIN);
        Check.same("lay again", game.lay(0, EmpireTurns.RIVER), EmpireTurns.SEA);
        Check.same("lay the last", game.lay(63, EmpireTurns.HILL), EmpireTurns.PLAIN);
        Check.same("laid", game.tile(0, 0), EmpireTurns.RIVER);
        Check.same("laid", game.tile(63, 0), EmpireTurns.HILL);
        Check.same("not laid", game.tile(1, 0), EmpireTurns.PLAIN);
    }

    private static void layRefused() {
        EmpireTurns game = new EmpireTurns();
        game.place(0, EmpireTurns.GUARD, 9);
        Games.city(game, 1, 20);
        Check.badArgument("tile -1", game, () -> game.lay(-1, 0));
        Check.badArgument("tile 64", game, () -> game.lay(64, 0));
        Check.badArgument("land -1", game, () -> game.lay(0, -1));
        Check.badArgument("land 6", game, () -> game.lay(0, 6));
        Check.badArgument("far out", game, () -> game.lay(Integer.MIN_VALUE, Integer.MAX_VALUE));
        Check.badState("a unit on it", game, () -> game.lay(9, EmpireTurns.HILL));
        Check.badState("a city on it", game, () -> game.lay(20, EmpireTurns.HILL));
        Check.badArgument("land before unit", game, () -> game.lay(9, 6));
        game.endTurn();
        Check.badState("turn 1", game, () -> game.lay(0, EmpireTurns.HILL));
        Check.badArgument("tile before turn", game, () -> game.lay(64, EmpireTurns.HILL));
    }

    private static void need() {
        EmpireTurns game = new EmpireTurns();
        Check.same("one", game.need(9, 8), 1);
        Check.same("the same", game.need(9, 8), 1);
        Check.same("two", game.need(9, 0), 2);
        Check.same("one of two again", game.need(9, 0), 2);
        Check.badState("three", game, () -> game.need(9, 1));
        Check.same("still two", game.need(9, 8), 2);
        Check.badArgument("craft 10", game, () -> game.need(10, 0));
        Check.badArgument("craft -1", game, () -> game.need(-1, -2));
        Check.badArgument("itself", game, () -> game.need(3, 3));
        Check.badArgument("a greater one", game, () -> game.need(3, 4));
        Check.badArgument("other -1", game, () -> game.need(3, -1));
        Check.badArgument("0 needs none", game, () -> game.need(0, 0));
        game.endTurn();
        Check.badState("turn 1", game, () -> game.need(1, 0));
        Check.badState("turn 1, known need", game, () -> game.need(9, 8));
        Check.badArgument("argument before turn", game, () -> game.need(1, 1));
    }

    private static void place() {
        EmpireTurns game = new EmpireTurns();
        int[] moves = {2, 2, 2, 4, 2};
        for (int kind = 0; kind < 5; kind++) {
            Check.same("number", game.place(3, kind, 10 + kind), kind);
            int[] told = {3, kind, 10 + kind, 10, moves[kind], 0};
            for (int what = 0; what < 6; what++) {
                Check.same("unit's " + what, game.unit(kind, what), told[what]);
            }
            Check.same("units on it", game.unitsOn(10 + kind), 1);
        }
        game.found(0);
        Check.same("numbers are not used again", game.place(3, EmpireTurns.GUARD, 10), 5);
    }

    private static void placeRefused() {
        EmpireTurns game = new EmpireTurns();
        game.lay(1, EmpireTurns.SEA);
        game.place(0, EmpireTurns.GUARD, 2);
        Games.city(game, 0, 30);
        Check.badArgument("player -1", game, () -> game.place(-1, 0, 0));
        Check.badArgument("player 4", game, () -> game.place(4, 0, 0));
        Check.badArgument("kind -1", game, () -> game.place(0, -1, 0));
        Check.badArgument("a building", game, () -> game.place(0, EmpireTurns.TEMPLE, 0));
        Check.badArgument("tile 64", game, () -> game.place(0, 0, 64));
        Check.badArgument("tile -1", game, () -> game.place(0, 0, -1));
        Check.badState("SEA", game, () -> game.place(0, 0, 1));
        Check.badState("a unit of another one", game, () -> game.place(1, 0, 2));
        Check.badState("a city of another one", game, () -> game.place(1, 0, 30));
        Check.badArgument("argument before state", game, () -> game.place(0, 7, 1));
        for (int i = 0; i < 3; i++) {
            game.place(0, EmpireTurns.WORKER, 2);
        }
        Check.same("4 units", game.unitsOn(2), 4);
        Check.badState("a fifth unit", game, () -> game.place(0, 0, 2));
        for (int i = 0; i < 36; i++) {
            game.place(2, EmpireTurns.WORKER, 32 + i / 4);
        }
        Check.badState("41 units", game, () -> game.place(2, 0, 60));
        game.endTurn();
        Check.badState("turn 1", game, () -> game.place(3, 0, 60));
    }
}
