/** Beginnings that several tests share. */
final class Games {
    private Games() {
    }

    /** Puts a SETTLER of the player on the tile and founds a city with it. */
    static int city(EmpireTurns game, int player, int tile) {
        return game.found(game.place(player, EmpireTurns.SETTLER, tile));
    }

    static void endTurns(EmpireTurns game, int turns) {
        for (int i = 0; i < turns; i++) {
            game.endTurn();
        }
    }

    static void layAll(EmpireTurns game, int land) {
        for (int tile = 0; tile < 64; tile++) {
            game.lay(tile, land);
        }
    }

    static void agree(EmpireTurns game, int from, int to, int kind, int turns, int what) {
        game.offer(from, to, kind, turns, what);
        game.agree(from, to);
    }

    static boolean isThere(EmpireTurns game, int unit) {
        try {
            game.unit(unit, 0);
            return true;
        } catch (IndexOutOfBoundsException e) {
            return false;
        }
    }

    /** Ends turns until the player knows the craft, at most so many. */
    static void learnBy(EmpireTurns game, int player, int craft, int most) {
        game.setParts(player, 100);
        game.learn(player, craft);
        for (int i = 0; i < most && (game.player(player, 3) >> craft & 1) == 0; i++) {
            game.endTurn();
        }
    }

    /** Ends turns until the player has so many coins, at most so many turns. */
    static void saveUp(EmpireTurns game, int player, int coins, int most) {
        game.setParts(player, 0);
        for (int i = 0; i < most && game.player(player, 0) < coins; i++) {
            game.endTurn();
        }
    }
}
