/** Edges of borders, and of the promise 26. */
final class BorderEdges {
    private static final String OUT_OF_RANGE = "Throws IllegalArgumentException if an argument is out of range";
    private static final String AT_ONCE =
        "When a city is founded or taken, its tile alone becomes its owner's at once.";

    private BorderEdges() {
    }

    // ---- Borders

    @Sentence(promise = 26, under = "Borders", says = "The pull of a city on a tile at a distance d of at most 3 is "
        + "4 times its culture divided by (1 + d)^2.")
    static void pullsByDistance() {
        EmpireTurns game = new EmpireTurns();
        Games.city(game, 0, 24);
        for (int culture = 5; culture <= 20; culture++) {
            Check.same("culture", game.city(0, 5), culture);
            for (int away = 0; away <= 3; away++) {
                int by = (1 + away) * (1 + away);
                Check.same(away + " away", game.pull(0, 24 + away), 4 * culture / by);
            }
            for (int away = 4; away <= 7; away++) {
                Check.same(away + " away", game.pull(0, 24 + away), 0);
            }
            game.endTurn();
        }
    }

    @Sentence(promise = 21, under = "Borders",
        says = "At the end of each turn, each tile falls to the player whose cities pull it the most, together;")
    static void tilesFallAtTheEndOfTheTurn() {
        EmpireTurns game = new EmpireTurns();
        Games.city(game, 1, 27);
        Check.same("not before", game.tile(28, 2), EmpireTurns.NONE);
        game.endTurn();
        int held = 0;
        for (int tile = 0; tile < 64; tile++) {
            held += game.tile(tile, 2) == 1 ? 1 : 0;
        }
        Check.same("all at most 3 away", held, 49);
        Check.same("3 away", game.tile(54, 2), 1);
        Check.same("4 away", game.tile(55, 2), EmpireTurns.NONE);
    }

    @Sentence(promise = 21, under = "Borders",
        says = "At the end of each turn, each tile falls to the player whose cities pull it the most, together;")
    static void twoCitiesPullTogether() {
        EmpireTurns game = new EmpireTurns();
        Games.city(game, 0, 24);
        Games.city(game, 0, 30);
        Games.city(game, 1, 43);
        // 27 is 3 from the one's cities and 2 from the other's, whose cultures are alike.
        int[][] due = {{2, 2, EmpireTurns.NONE}, {2, 3, 1}, {4, 3, 0}, {4, 4, 0}, {4, 4, 0}, {4, 4, 0}, {6, 5, 0}};
        for (int i = 0; i < due.length; i++) {
            game.endTurn();
            Check.same("pull of 0 in the turn " + (i + 1), game.pull(0, 27), due[i][0]);
            Check.same("pull of 1 in the turn " + (i + 1), game.pull(1, 27), due[i][1]);
            Check.same("whose it is in the turn " + (i + 1), game.tile(27, 2), due[i][2]);
        }
    }

    @Sentence(promise = 21, under = "Borders", says = "if none pulls it, it is nobody's;")
    static void tilesThatNonePullsAreNobodys() {
        EmpireTurns game = new EmpireTurns();
        Games.city(game, 0, 27);
        int rider = game.place(1, EmpireTurns.RIDER, 29);
        Games.city(game, 1, 63);
        game.endTurn();
        Check.same("too far", game.tile(31, 2), EmpireTurns.NONE);
        Check.same("pulled", game.tile(26, 2), 0);
        game.step(rider, -1, 0);
        Check.holds("destroyed", game.step(rider, -1, 0));
        Check.same("not before the end of the turn", game.tile(26, 2), 0);
        game.endTurn();
        Check.same("not pulled any more", game.tile(26, 2), EmpireTurns.NONE);
        Check.same("nor where the city was", game.tile(27, 2), EmpireTurns.NONE);
    }

    @Sentence(promise = 21, under = "Borders",
        says = "if several do alike, it stays with the one who has it, if that is one of them,")
    static void alikeItStays() {
        for (int first = 0; first <= 1; first++) {
            EmpireTurns game = new EmpireTurns();
            Games.city(game, first, 24);
            Games.city(game, 1 - first, 62);
            int settler = game.place(1 - first, EmpireTurns.SETTLER, 30);
            Games.endTurns(game, 3);
            game.found(settler);
            Games.endTurns(game, 3);
            Check.same("11 times 4 by 16", game.pull(first, 27), 2);
            Check.same("8 times 4 by 16", game.pull(1 - first, 27), 2);
            Check.same("it stays with " + first, game.tile(27, 2), first);
            Games.endTurns(game, 1);
            Check.same("12 times 4 by 16", game.pull(first, 27), 3);
            Check.same("the one who pulls it more", game.tile(27, 2), first);
        }
    }

    @Sentence(promise = 21, under = "Borders", says = "otherwise it is nobody's.")
    static void alikeItIsNobodysIfAnotherOneHasIt() {
        EmpireTurns game = new EmpireTurns();
        Games.city(game, 0, 24);
        Games.city(game, 1, 30);
        Games.city(game, 2, 43);
        int rider = game.place(0, EmpireTurns.RIDER, 42);
        Games.endTurns(game, 2);
        Check.same("whose", game.tile(27, 2), 2);
        Check.holds("destroyed", game.step(rider, 1, 0));
        game.endTurn();
        Check.same("pull of 0", game.pull(0, 27), 2);
        Check.same("pull of 1", game.pull(1, 27), 2);
        Check.same("nobody's", game.tile(27, 2), EmpireTurns.NONE);
        game.endTurn();
        Check.same("nobody's still", game.tile(27, 2), EmpireTurns.NONE);
    }

    @Sentence(promise = 21, under = "Borders", says = "The tile of a city is always its owner's.")
    static void tilesOfCitiesAreTheirOwners() {
        EmpireTurns game = Games.foundedBetweenOldOnes();
        game.endTurn();
        Check.same("pull of its owner", game.pull(2, 27), 4 * 6);
        Check.same("pull of another one", game.pull(0, 27), 2 * (4 * 66 / 16));
        Check.same("whose", game.tile(27, 2), 2);
        Check.same("owner", game.city(5, 0), 2);
    }

    @Sentence(promise = 5, under = "Borders", says = AT_ONCE)
    static void foundedItsTileAloneIsItsOwners() {
        EmpireTurns game = new EmpireTurns();
        Games.city(game, 3, 27);
        for (int tile = 0; tile < 64; tile++) {
            Check.same("whose " + tile + " is", game.tile(tile, 2), tile == 27 ? 3 : EmpireTurns.NONE);
        }
    }

    @Sentence(promise = 17, under = "Borders", says = AT_ONCE)
    static void takenItsTileAloneIsItsOwners() {
        EmpireTurns game = Games.readyToTake();
        int[] before = new int[64];
        for (int tile = 0; tile < 64; tile++) {
            before[tile] = game.tile(tile, 2);
        }
        Check.holds("taken", game.step(Games.TAKER, 1, 0));
        for (int tile = 0; tile < 64; tile++) {
            Check.same("whose " + tile + " is", game.tile(tile, 2), tile == 28 ? 0 : before[tile]);
        }
        game.endTurn();
        Check.same("at the end of the turn the tiles beside it", game.tile(29, 2), 0);
    }

    // ---- Promise 26: pull

    @Sentence(promise = 26, says = "Returns how much the cities of a player pull a tile now, together.")
    static void pullIsTheSum() {
        EmpireTurns game = new EmpireTurns();
        Games.city(game, 0, 27);
        Check.same("now", game.pull(0, 28), 5);
        Games.city(game, 0, 30);
        Games.city(game, 1, 51);
        Check.same("both, each rounded down", game.pull(0, 28), 5 + 2);
        Check.same("of another player", game.pull(1, 28), 1);
        Check.same("of one without cities", game.pull(2, 28), 0);
        game.endTurn();
        Check.same("both", game.pull(0, 28), 6 + 2);
    }

    @Sentence(promise = 26, says = "player: 0 to 3")
    static void pullPlayers() {
        EmpireTurns game = new EmpireTurns();
        Check.range(game, 0, 3, v -> game.pull(v, 0));
    }

    @Sentence(promise = 26, says = "tile: 0 to 63")
    static void pullTiles() {
        EmpireTurns game = new EmpireTurns();
        Check.range(game, 0, 63, v -> game.pull(0, v));
    }

    @Sentence(promise = 26, says = OUT_OF_RANGE)
    static void pullOutOfRange() {
        EmpireTurns game = new EmpireTurns();
        Check.badArgument("both", game, () -> game.pull(-1, 64));
        Check.badArgument("the tile", game, () -> game.pull(3, Integer.MIN_VALUE));
        Check.badArgument("the player", game, () -> game.pull(Integer.MAX_VALUE, 63));
    }
}
