/** Beginnings that several tests share. */
final class Games {
    static final int LATE_TILE = 27;
    static final int LATE_SETTLER = 2;
    static final int TAKER = 3;
    static final int LONELY = 3;

    private Games() {
    }

    /** Puts a SETTLER of the player on the tile and founds a city with it. */
    static int city(EmpireTurns game, int player, int tile) {
        return game.found(game.place(player, EmpireTurns.SETTLER, tile));
    }

    static void endTurns(EmpireTurns game, int turns) {
        for (int i = 0; i < turns; i++) {
            game.endTurn();
        }
    }

    static void layAll(EmpireTurns game, int land) {
        for (int tile = 0; tile < 64; tile++) {
            game.lay(tile, land);
        }
    }

    static void agree(EmpireTurns game, int from, int to, int kind, int turns, int what) {
        game.offer(from, to, kind, turns, what);
        game.agree(from, to);
    }

    static boolean isThere(EmpireTurns game, int unit) {
        try {
            game.unit(unit, 0);
            return true;
        } catch (IndexOutOfBoundsException e) {
            return false;
        }
    }

    /** Ends turns until the player knows the craft, at most so many. */
    static void learnBy(EmpireTurns game, int player, int craft, int most) {
        game.setParts(player, 100);
        game.learn(player, craft);
        for (int i = 0; i < most && (game.player(player, 3) >> craft & 1) == 0; i++) {
            game.endTurn();
        }
    }

    /** Ends turns until the player has so many coins, at most so many turns. */
    static void saveUp(EmpireTurns game, int player, int coins, int most) {
        game.setParts(player, 0);
        for (int i = 0; i < most && game.player(player, 0) < coins; i++) {
            game.endTurn();
        }
    }

    /** 12 cities of the player 0 were founded, and the 8 of them are there that are not on the tile 0. */
    static EmpireTurns twelveFounded() {
        EmpireTurns game = new EmpireTurns();
        for (int i = 0; i < 9; i++) {
            city(game, 0, 3 * (i % 3) + 24 * (i / 3));
        }
        // No more fit beside one another: one of the size 1 is taken, and so destroyed, again and again.
        int[] riders = {game.place(1, EmpireTurns.RIDER, 1), game.place(1, EmpireTurns.RIDER, 1)};
        for (int i = 0; i < 4; i++) {
            game.step(riders[i / 2], -1, 0);
            game.step(riders[i / 2], 1, 0);
            if (i < 3) {
                city(game, 0, 0);
            }
        }
        return game;
    }

    /**
     * All is RIVER, so that cities grow and have the work 1 each turn. The player 0 has cities on the tiles 0
     * and 48, knows these crafts and no others, and has a SETTLER on LATE_TILE, which can found a city there.
     */
    static EmpireTurns scholars(int... crafts) {
        EmpireTurns game = new EmpireTurns();
        layAll(game, EmpireTurns.RIVER);
        city(game, 0, 0);
        city(game, 0, 48);
        game.place(0, EmpireTurns.SETTLER, LATE_TILE);
        for (int craft : crafts) {
            learnBy(game, 0, craft, 60);
        }
        game.setParts(0, 0);
        return game;
    }

    /** Ends turns until the city 0 has made the work, which was first in its queue. */
    static void makeAtOnce(EmpireTurns game, int work) {
        game.queue(0, work);
        for (int i = 0; i < 60 && game.city(0, 7) == work; i++) {
            game.endTurn();
        }
        Check.same("made", game.city(0, 7), EmpireTurns.NONE);
    }

    /**
     * The player 0 has 8 cities, much work in their stores, and 40 units. None of these is on the tile 0, and
     * one is a SETTLER on the tile 54, which can found a city there. All other cities have works that wait.
     */
    static EmpireTurns fortyUnits() {
        EmpireTurns game = new EmpireTurns();
        layAll(game, EmpireTurns.RIVER);
        for (int i = 0; i < 8; i++) {
            city(game, 0, 3 * (i % 3) + 24 * (i / 3));
        }
        game.place(0, EmpireTurns.SETTLER, 54);
        // 16 are free, and the other 8 cost what the first turn brings.
        for (int i = 1; i < 24; i++) {
            game.place(0, EmpireTurns.WORKER, 9 + i / 4);
        }
        game.setParts(0, 0);
        endTurns(game, 60);
        for (int i = 0; i < 21; i++) {
            game.queue(1 + i % 7, EmpireTurns.GUARD);
        }
        endTurns(game, 3);
        int units = 0;
        for (int tile = 0; tile < 64; tile++) {
            units += game.unitsOn(tile);
        }
        Check.same("units", units, 40);
        return game;
    }

    /** The lowest unit of the kind. */
    static int firstUnit(EmpireTurns game, int kind) {
        for (int unit = 0; unit < 200; unit++) {
            if (isThere(game, unit) && game.unit(unit, 1) == kind) {
                return unit;
            }
        }
        return EmpireTurns.NONE;
    }

    /**
     * The player 1 has the city 0 on the tile 28, of the size 2, and the city 1 on 63. The player 0 has the city
     * 2 on 24, and a RIDER on 27, which has all its moves and can take the city 0.
     */
    static EmpireTurns readyToTake() {
        EmpireTurns game = new EmpireTurns();
        city(game, 1, 28);
        city(game, 1, 63);
        city(game, 0, 24);
        game.place(0, EmpireTurns.RIDER, 27);
        endTurns(game, 9);
        Check.same("size", game.city(0, 2), 2);
        return game;
    }

    /** The player 2 has coins and the WORKER LONELY on the tile 8, but no city any more. */
    static EmpireTurns withoutBorders() {
        EmpireTurns game = new EmpireTurns();
        layAll(game, EmpireTurns.SEA);
        game.lay(0, EmpireTurns.HILL);
        game.lay(1, EmpireTurns.PLAIN);
        game.lay(8, EmpireTurns.PLAIN);
        game.lay(3, EmpireTurns.PLAIN);
        city(game, 2, 0);
        city(game, 1, 3);
        game.place(1, EmpireTurns.RIDER, 1);
        game.place(2, EmpireTurns.WORKER, 8);
        game.setParts(2, 0);
        endTurns(game, 8);
        game.step(2, -1, 0);
        Check.same("no city", game.player(2, 6), 0);
        return game;
    }

    /**
     * The city 0 on 27 has the size 3 and nothing in its store. All RIVERs near it have foes on them; it can work
     * HILLs on 9 to 12, of which the last has a MINE, and DESERTs.
     */
    static EmpireTurns threeHungry() {
        EmpireTurns game = new EmpireTurns();
        layAll(game, EmpireTurns.DESERT);
        int[] rivers = {20, 28, 36};
        int[] foes = new int[rivers.length];
        for (int i = 0; i < rivers.length; i++) {
            game.lay(rivers[i], EmpireTurns.RIVER);
            foes[i] = game.place(1, EmpireTurns.WORKER, rivers[i] + 1);
            game.lay(9 + i, EmpireTurns.HILL);
        }
        game.lay(12, EmpireTurns.HILL);
        city(game, 0, 27);
        city(game, 1, 31);
        game.setParts(1, 0);
        game.order(0, 9, 1, 1);
        int miner = game.place(0, EmpireTurns.WORKER, 12);
        game.endTurn();
        game.work(miner, EmpireTurns.MINE);
        endTurns(game, 10);
        Check.same("size", game.city(0, 2), 3);
        for (int foe : foes) {
            Check.holds("on a RIVER", game.step(foe, -1, 0));
        }
        return game;
    }

    /** The city 0 had the size 6 and much food in its store, and was taken five times in one turn. */
    static EmpireTurns muchFoodForTheSizeOne() {
        EmpireTurns game = new EmpireTurns();
        layAll(game, EmpireTurns.RIVER);
        city(game, 1, 28);
        int[] homes = {0, 7, 60};
        int[] players = {0, 2, 3};
        int[][] ways = {{1, 1}, {-1, 1}, {0, -1}};
        int[] riders = new int[players.length];
        for (int i = 0; i < players.length; i++) {
            city(game, players[i], homes[i]);
            riders[i] = game.place(players[i], EmpireTurns.RIDER, 28 - ways[i][0] - 8 * ways[i][1]);
        }
        for (int i = 0; i < 60 && (game.city(0, 2) < 6 || game.city(0, 3) < 34); i++) {
            game.endTurn();
        }
        Check.same("size", game.city(0, 2), 6);
        for (int i = 0; i < 5; i++) {
            int[] way = ways[i % 3];
            Check.holds("taken", game.step(riders[i % 3], way[0], way[1]));
            Check.holds("left", game.step(riders[i % 3], -way[0], -way[1]));
        }
        return game;
    }

    /** A city of the size 2 on 27 that can work HILLs on 9 and 10, a PLAIN on 29, and DESERTs. */
    static EmpireTurns sizeTwo() {
        EmpireTurns game = new EmpireTurns();
        layAll(game, EmpireTurns.DESERT);
        game.lay(9, EmpireTurns.HILL);
        game.lay(10, EmpireTurns.HILL);
        game.lay(29, EmpireTurns.PLAIN);
        city(game, 0, 27);
        game.order(0, 9, 1, 1);
        endTurns(game, 9);
        Check.same("size", game.city(0, 2), 2);
        return game;
    }

    /**
     * The players 0 and 1, with two old cities each, hold one another off the tile 27, on which the player 2
     * founds the city 5.
     */
    static EmpireTurns foundedBetweenOldOnes() {
        EmpireTurns game = new EmpireTurns();
        city(game, 0, 0);
        city(game, 0, 48);
        city(game, 1, 6);
        city(game, 1, 54);
        city(game, 2, 31);
        int settler = game.place(2, EmpireTurns.SETTLER, 27);
        endTurns(game, 60);
        Check.same("nobody's", game.tile(27, 2), EmpireTurns.NONE);
        Check.same("city", game.found(settler), 5);
        return game;
    }
}
