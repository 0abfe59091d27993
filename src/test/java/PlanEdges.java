import java.util.Arrays;

/** Edges of the plans of cities, and of the promises 22 and 23. */
final class PlanEdges {
    private static final String CAN_BE_WORKED = "A tile can be worked, if it is at the distance 1 or 2,";
    private static final String AS_MANY = "Of these the plan has as many as the size of the city, or all, "
        + "if there are not so many.";
    private static final String BIT = "Returns bit t for the tile t.";
    private static final String NO_CITY = "Throws IndexOutOfBoundsException if there is no such city";

    private PlanEdges() {
    }

    /** All is DESERT, which gives no food, but for one RIVER; the city of the player 0 wants food. */
    private static EmpireTurns oneRiver(int river, int city) {
        EmpireTurns game = new EmpireTurns();
        Games.layAll(game, EmpireTurns.DESERT);
        game.lay(river, EmpireTurns.RIVER);
        Games.city(game, 0, city);
        game.order(0, 9, 1, 1);
        return game;
    }

    // ---- Cities

    @Sentence(promise = 22, under = "Cities", says = "The plan of a city is a set of tiles that it works besides its own.")
    static void itsOwnTileIsNotInThePlan() {
        EmpireTurns game = oneRiver(27, 27);
        Games.endTurns(game, 2);
        Check.planned(game, "the lowest DESERT", 0, 9);
        Check.same("its own one is worked", game.city(0, 8), 3);
    }

    @Sentence(promise = 22, under = "Cities", says = "Cities plan by rising numbers.")
    static void theFirstCityPlansFirst() {
        for (int first = 27; first <= 30; first += 3) {
            EmpireTurns game = oneRiver(28, first);
            Games.city(game, 0, 57 - first);
            game.order(1, 9, 1, 1);
            game.endTurn();
            Check.planned(game, "the city 0 on " + first, 0, 28);
            Check.same("the other one has not got it", game.plan(1) >> 28 & 1, 0);
            Check.same("but a DESERT", game.city(1, 8), 2);
        }
    }

    @Sentence(promise = 22, under = "Cities", says = CAN_BE_WORKED)
    static void distancesOneAndTwoCanBeWorked() {
        int[] near = {18, 19, 20, 26, 28, 34, 35, 36, 9, 13, 41, 45, 11, 43, 25, 29};
        for (int tile : near) {
            EmpireTurns game = oneRiver(tile, 27);
            game.endTurn();
            Check.planned(game, "the RIVER on " + tile, 0, tile);
        }
    }

    @Sentence(promise = 22, under = "Cities", says = CAN_BE_WORKED)
    static void distanceThreeCannotBeWorked() {
        int[] far = {0, 3, 6, 24, 30, 48, 51, 54};
        for (int tile : far) {
            EmpireTurns game = oneRiver(tile, 27);
            game.endTurn();
            Check.same("within the borders", game.tile(tile, 2), 0);
            Check.planned(game, "not the RIVER on " + tile, 0, 9);
        }
    }

    @Sentence(promise = 22, under = "Cities", says = CAN_BE_WORKED)
    static void theOtherSideOfTheEdgeCannotBeWorked() {
        EmpireTurns game = oneRiver(16, 15);
        Games.city(game, 0, 24);
        game.endTurn();
        Check.same("within the borders", game.tile(16, 2), 0);
        Check.planned(game, "not the next number", 0, 5);
    }

    @Sentence(promise = 22, under = "Cities", says = "within the borders of the owner,")
    static void nobodysTilesCannotBeWorked() {
        EmpireTurns game = oneRiver(28, 27);
        Check.planned(game, "its tile alone is within borders", 0);
        game.endTurn();
        Check.planned(game, "now others are, too", 0, 28);
    }

    @Sentence(promise = 22, under = "Cities", says = "within the borders of the owner,")
    static void tilesOfOthersCannotBeWorked() {
        EmpireTurns game = oneRiver(29, 27);
        Games.city(game, 1, 30);
        game.order(1, 9, 1, 1);
        game.endTurn();
        Check.same("whose", game.tile(29, 2), 1);
        Check.planned(game, "not of the one", 0, 9);
        Check.planned(game, "but of the other one", 1, 29);
    }

    /** As cities are at least 3 from one another, the only city that is so near is the one that plans. */
    @Sentence(promise = 22, under = "Cities", says = "has no city,")
    static void tilesWithCitiesCannotBeWorked() {
        EmpireTurns game = oneRiver(27, 27);
        Games.city(game, 0, 30);
        game.order(1, 9, 1, 1);
        game.endTurn();
        Check.planned(game, "not its own", 0, 9);
        Check.same("nor that of the other one", game.plan(1) & (1L << 27 | 1L << 30), 0);
    }

    @Sentence(promise = 22, under = "Cities", says = "is in no plan of an earlier city,")
    static void tilesOfEarlierPlansCannotBeWorked() {
        EmpireTurns game = oneRiver(28, 27);
        game.lay(29, EmpireTurns.PLAIN);
        Games.city(game, 0, 30);
        game.order(1, 9, 1, 1);
        game.endTurn();
        Check.planned(game, "the RIVER", 0, 28);
        Check.planned(game, "so the PLAIN", 1, 29);
        game.order(0, 1, 9, 1);
        Check.planned(game, "a DESERT or the PLAIN, with the work 1 each", 0, 29);
        Check.planned(game, "so the RIVER", 1, 28);
    }

    @Sentence(promise = 22, under = "Cities", says = "and no unit of a player at war with the owner stands on it.")
    static void tilesWithFoesCannotBeWorked() {
        EmpireTurns game = oneRiver(28, 27);
        Games.city(game, 1, 63);
        int foe = game.place(1, EmpireTurns.WORKER, 28);
        game.endTurn();
        Check.planned(game, "at war", 0, 9);
        Games.agree(game, 1, 0, EmpireTurns.PEACE, 1, 0);
        Check.planned(game, "in peace", 0, 28);
        game.endTurn();
        Check.planned(game, "at war again", 0, 9);
        game.step(foe, 1, 0);
        Check.planned(game, "when it has gone", 0, 28);
    }

    @Sentence(promise = 22, under = "Cities", says = "and no unit of a player at war with the owner stands on it.")
    static void ownUnitsDoNotMatter() {
        EmpireTurns game = oneRiver(28, 27);
        game.place(0, EmpireTurns.GUARD, 28);
        game.endTurn();
        Check.planned(game, "an own unit", 0, 28);
    }

    @Sentence(promise = 22, under = "Cities", says = AS_MANY)
    static void asManyAsTheSizeUpToAll() {
        EmpireTurns game = new EmpireTurns();
        Games.layAll(game, EmpireTurns.RIVER);
        Games.city(game, 0, 27);
        game.endTurn();
        long due = 0;
        int works = 0;
        for (int tile = 9; tile <= 45; tile++) {
            if (tile % 8 >= 1 && tile % 8 <= 5 && tile != 27) {
                due |= 1L << tile;
                works++;
                Check.same("the lowest tiles for the size " + works, game.plan(0), due);
                Check.same("their food", game.city(0, 8), 3 + 3 * works);
                growTo(game, 0, works + 1);
            }
        }
        Check.same("all tiles at the distance 1 or 2", works, 24);
        for (int turn = 0; turn < 100; turn++) {
            Check.same("all for the size " + game.city(0, 2), game.plan(0), due);
            game.endTurn();
        }
        Check.holds("there are not so many", game.city(0, 2) > 24);
    }

    @Sentence(promise = 23, under = "Cities", says = AS_MANY)
    static void asManyAsTheSizeByAll() {
        EmpireTurns game = new EmpireTurns();
        Games.layAll(game, EmpireTurns.RIVER);
        Games.city(game, 0, 27);
        game.endTurn();
        int[] lowest = {9, 10, 11};
        for (int size = 1; size <= 3; size++) {
            Check.planned(game, "size " + size, 0, Arrays.copyOf(lowest, size));
            growTo(game, 0, size + 1);
        }
    }

    @Sentence(promise = 22, under = "Cities", says = AS_MANY)
    static void allIfThereAreNotSoMany() {
        EmpireTurns game = new EmpireTurns();
        Games.layAll(game, EmpireTurns.RIVER);
        Games.city(game, 0, 0);
        Games.city(game, 1, 3);
        Games.city(game, 1, 24);
        Games.city(game, 2, 63);
        Check.same("none at first", game.plan(0), 0);
        Games.endTurns(game, 20);
        Check.holds("size", game.city(0, 2) >= 4);
        Check.same("3 alone are within its borders", game.plan(0), 1L << 1 | 1L << 8 | 1L << 9);
        Check.same("their food", game.city(0, 8), 3 * 4);
    }

    @Sentence(promise = 22, under = "Cities", says = "Its food is enough, if it is at least 2 times the size.")
    static void justEnoughFood() {
        EmpireTurns game = Games.sizeTwo();
        game.order(0, 1, 9, 1);
        Check.planned(game, "2 of its own and 1 each of the HILLs are enough", 0, 9, 10);
        Check.same("food", game.city(0, 8), 4);
    }

    @Sentence(promise = 22, under = "Cities", says = "Its food is enough, if it is at least 2 times the size.")
    static void theOwnTileIsEnoughForTheSizeOne() {
        EmpireTurns game = new EmpireTurns();
        game.lay(28, EmpireTurns.DESERT);
        Games.city(game, 0, 27);
        game.order(0, 1, 1, 9);
        game.endTurn();
        Check.planned(game, "the DESERT, which has no food", 0, 28);
        Check.same("food", game.city(0, 8), 2);
    }

    @Sentence(promise = 22, under = "Cities", says = "Its food is enough, if it is at least 2 times the size.")
    static void aFarmOnARiverHasFourFood() {
        EmpireTurns game = oneRiver(28, 27);
        int worker = game.place(0, EmpireTurns.WORKER, 28);
        game.endTurn();
        game.work(worker, EmpireTurns.FARM);
        growTo(game, 0, 2);
        game.order(0, 1, 9, 1);
        Check.planned(game, "which the size 2 needs, and the lowest DESERT", 0, 9, 28);
        Check.same("food", game.city(0, 8), 6);
    }

    @Sentence(promise = 22, under = "Cities", says = "Its food is enough, if it is at least 2 times the size.")
    static void oneFoodTooFew() {
        EmpireTurns game = Games.sizeTwo();
        game.order(0, 1, 1, 9);
        // Two DESERTs are worth 10 each, and one beside the HILL 12; the PLAIN makes 13 with enough food.
        Check.planned(game, "DESERT and PLAIN", 0, 11, 29);
        Check.same("food", game.city(0, 8), 4);
    }

    @Sentence(promise = 22, under = "Cities",
        says = "The worth of a set is the sum of what its tiles give, each times the weight for it.")
    static void worthIsFoodAndWorkAndTradeTimesTheirWeights() {
        // PLAIN on 9 is 2 food and 1 work, FOREST on 10 is 1 food, 2 work and 1 trade.
        EmpireTurns game = new EmpireTurns();
        Games.layAll(game, EmpireTurns.DESERT);
        game.lay(9, EmpireTurns.PLAIN);
        game.lay(10, EmpireTurns.FOREST);
        Games.city(game, 0, 27);
        game.endTurn();
        int[][] orders = {{9, 7, 1, 9}, {9, 8, 1, 9}, {9, 7, 3, 10}, {3, 1, 1, 9}, {3, 2, 2, 10}, {4, 1, 4, 10}};
        for (int[] order : orders) {
            game.order(0, order[0], order[1], order[2]);
            Check.planned(game, "order " + order[0] + order[1] + order[2], 0, order[3]);
        }
    }

    @Sentence(promise = 22, under = "Cities",
        says = "The plan is, of all sets with enough food, one with the greatest worth;")
    static void theGreatestWorthWithEnoughFood() {
        EmpireTurns game = Games.sizeTwo();
        game.order(0, 9, 1, 1);
        Check.planned(game, "PLAIN 19 and HILL 11, though more food than asked for", 0, 9, 29);
        game.order(0, 1, 9, 9);
        Check.planned(game, "two HILLs of 19 and not two DESERTs of 18", 0, 9, 10);
    }

    @Sentence(promise = 22, under = "Cities",
        says = "if there are none, of those with the most food one with the greatest worth;")
    static void theMostFoodIfThereIsNotEnough() {
        EmpireTurns game = hungry();
        // The HILL on 9 has 1 food, all others none, and 2 would be needed.
        Check.planned(game, "HILL, and the DESERT with a MINE, not the lowest one", 0, 9, 41);
        game.order(0, 1, 1, 9);
        Check.planned(game, "HILL, though two DESERTs would be worth more", 0, 9, 41);
        Check.same("which is not enough", game.city(0, 8), 3);
    }

    @Sentence(promise = 22, under = "Cities",
        says = "if there are none, of those with the most food one with the greatest worth;")
    static void theMostFoodOfAsManyTiles() {
        EmpireTurns game = Games.threeHungry();
        game.order(0, 1, 1, 9);
        Check.planned(game, "three of the HILLs, one with a MINE, though DESERTs would be worth more", 0, 9, 10, 12);
        Check.same("5 food for 6", game.city(0, 8), 5);
    }

    /** A city of the size 2 on 27 whose RIVERs have foes on them; it has a HILL on 9 and a MINE on 41. */
    private static EmpireTurns hungry() {
        EmpireTurns game = new EmpireTurns();
        Games.layAll(game, EmpireTurns.DESERT);
        game.lay(28, EmpireTurns.RIVER);
        game.lay(36, EmpireTurns.RIVER);
        game.lay(9, EmpireTurns.HILL);
        Games.city(game, 0, 27);
        Games.city(game, 1, 31);
        game.order(0, 9, 1, 1);
        int miner = game.place(0, EmpireTurns.WORKER, 41);
        int[] foes = {game.place(1, EmpireTurns.WORKER, 29), game.place(1, EmpireTurns.WORKER, 37)};
        game.endTurn();
        game.work(miner, EmpireTurns.MINE);
        Games.endTurns(game, 5);
        Check.same("size", game.city(0, 2), 2);
        for (int foe : foes) {
            Check.holds("on a RIVER", game.step(foe, -1, 0));
        }
        return game;
    }

    @Sentence(promise = 22, under = "Cities",
        says = "of several the one whose tiles, by rising numbers, come first at the first difference.")
    static void theFirstOfSeveralAlike() {
        EmpireTurns game = new EmpireTurns();
        Games.city(game, 0, 27);
        Games.city(game, 1, 63);
        int foe = game.place(1, EmpireTurns.WORKER, 10);
        Games.endTurns(game, 9);
        Check.same("size", game.city(0, 2), 2);
        Check.planned(game, "all are alike, and a foe is on 10", 0, 9, 11);
        game.step(foe, -1, 0);
        Check.planned(game, "a foe is on 9", 0, 10, 11);
    }

    @Sentence(promise = 22, under = "Cities",
        says = "of several the one whose tiles, by rising numbers, come first at the first difference.")
    static void theFirstDifferenceDecides() {
        EmpireTurns game = Games.sizeTwo();
        // Each HILL, the PLAIN and each DESERT is worth 3, and 2 food are needed: 9 and 10 have them, and so
        // have 9 and 29, and 11 and 29.
        game.order(0, 1, 1, 1);
        Check.planned(game, "9 and 10", 0, 9, 10);
        game.order(0, 1, 1, 2);
        Check.planned(game, "9 and 10 before 9 and 29, 10 and 29, and 11 and 29", 0, 9, 10);
        EmpireTurns other = new EmpireTurns();
        Games.layAll(other, EmpireTurns.DESERT);
        other.lay(10, EmpireTurns.HILL);
        other.lay(11, EmpireTurns.HILL);
        other.lay(29, EmpireTurns.PLAIN);
        Games.city(other, 0, 27);
        other.order(0, 9, 1, 1);
        Games.endTurns(other, 9);
        other.order(0, 1, 1, 2);
        Check.planned(other, "9 and 29 before 10 and 11, though 29 is the greatest of all", 0, 9, 29);
    }

    // ---- Promise 22: plan

    @Sentence(promise = 22, says = "Returns the plan of a city as it would be now.")
    static void planIsThatOfNow() {
        EmpireTurns game = oneRiver(28, 27);
        game.lay(36, EmpireTurns.HILL);
        Check.same("before there are borders", game.plan(0), 0);
        game.endTurn();
        Check.same("with borders", game.plan(0), 1L << 28);
        game.order(0, 1, 9, 1);
        Check.same("with another order", game.plan(0), 1L << 36);
        Check.same("asked again", game.plan(0), 1L << 36);
    }

    @Sentence(promise = 22, says = BIT)
    static void planHasABitForEachTile() {
        EmpireTurns first = oneRiver(0, 9);
        first.endTurn();
        Check.same("bit 0", first.plan(0), 1);
        Check.same("food of the tile 0", first.city(0, 8), 2 + 3);
        EmpireTurns last = oneRiver(63, 54);
        last.endTurn();
        Check.same("bit 63", last.plan(0), Long.MIN_VALUE);
        EmpireTurns middle = oneRiver(32, 33);
        middle.endTurn();
        Check.same("bit 32", middle.plan(0), 1L << 32);
    }

    @Sentence(promise = 22, says = NO_CITY)
    static void planWithoutCity() {
        EmpireTurns game = oneRiver(28, 27);
        Check.noneFrom(game, 1, v -> game.plan(v));
    }

    // ---- Promise 23: planByAll

    @Sentence(promise = 23, says = "Returns the same, by trying all sets of tiles.")
    static void planByAllIsTheSame() {
        EmpireTurns game = growing();
        for (int turn = 0; turn < 25; turn++) {
            for (int city = 0; city < 3 && game.city(city, 2) <= 3; city++) {
                Check.same("city " + city + " in the turn " + turn, game.planByAll(city), game.plan(city));
            }
            game.endTurn();
        }
    }

    @Sentence(promise = 23, says = "Returns the same, by trying all sets of tiles.")
    static void planByAllTriesTheLastSet() {
        EmpireTurns game = new EmpireTurns();
        Games.layAll(game, EmpireTurns.DESERT);
        for (int tile = 43; tile <= 45; tile++) {
            game.lay(tile, EmpireTurns.RIVER);
        }
        Games.city(game, 0, 27);
        game.order(0, 9, 1, 1);
        growTo(game, 0, 3);
        Check.planned(game, "the last three of 24 tiles", 0, 43, 44, 45);
    }

    @Sentence(promise = 23, says = "Returns the same, by trying all sets of tiles.")
    static void planByAllTriesEachTileOnce() {
        EmpireTurns game = oneRiver(45, 27);
        Games.city(game, 1, 7);
        game.place(1, EmpireTurns.WORKER, 9);
        growTo(game, 0, 2);
        Check.planned(game, "the last tile, and the lowest one that has no foe", 0, 10, 45);
    }

    @Sentence(promise = 23, says = BIT)
    static void planByAllHasABitForEachTile() {
        EmpireTurns first = oneRiver(0, 9);
        first.endTurn();
        Check.same("bit 0", first.planByAll(0), 1);
        EmpireTurns last = oneRiver(63, 54);
        last.endTurn();
        Check.same("bit 63", last.planByAll(0), Long.MIN_VALUE);
    }

    @Sentence(promise = 23, says = NO_CITY)
    static void planByAllWithoutCity() {
        EmpireTurns game = growing();
        Check.noneFrom(game, 3, v -> game.planByAll(v));
        Games.endTurns(game, 30);
        Check.noneFrom(game, 3, v -> game.planByAll(v));
    }

    @Sentence(promise = 23, says = "Throws IllegalStateException if the size of this one,")
    static void planByAllOfALargeCity() {
        EmpireTurns game = growing();
        for (int turn = 0; turn < 30; turn++) {
            if (game.city(1, 2) <= 3) {
                Check.taken("size " + game.city(1, 2), () -> game.planByAll(1));
            } else {
                Check.badState("size " + game.city(1, 2), game, () -> game.planByAll(1));
            }
            game.endTurn();
        }
        Check.holds("it has grown", game.city(1, 2) > 4);
    }

    @Sentence(promise = 23, says = "or an earlier one, is above 3")
    static void planByAllBehindALargeCity() {
        EmpireTurns game = growing();
        for (int size = 2; size <= 4; size++) {
            Check.taken("behind one of " + game.city(1, 2), () -> game.planByAll(2));
            growTo(game, 1, size);
        }
        Check.same("the size of the last one", game.city(2, 2), 1);
        Check.badState("behind one of 4, which is another player's", game, () -> game.planByAll(2));
        Check.same("the size of the first one", game.city(0, 2), 1);
        Check.taken("before one of 4", () -> game.planByAll(0));
        EmpireTurns large = new EmpireTurns();
        Games.layAll(large, EmpireTurns.RIVER);
        Games.city(large, 0, 27);
        growTo(large, 0, 4);
        Check.badState("the first one itself", large, () -> large.planByAll(0));
    }

    private static void growTo(EmpireTurns game, int city, int size) {
        for (int i = 0; i < 40 && game.city(city, 2) < size; i++) {
            game.endTurn();
        }
        Check.same("grown", game.city(city, 2), size);
    }

    /** The city 1 of the player 1 grows by RIVERs, the cities 0 and 2 of the player 0 in the DESERT do not. */
    private static EmpireTurns growing() {
        EmpireTurns game = new EmpireTurns();
        Games.layAll(game, EmpireTurns.DESERT);
        for (int tile = 0; tile < 64; tile++) {
            if (tile % 8 >= 5 && tile < 32) {
                game.lay(tile, EmpireTurns.RIVER);
            }
        }
        Games.city(game, 0, 48);
        Games.city(game, 1, 14);
        Games.city(game, 0, 51);
        return game;
    }
}
