/** Edges of the lands, and of the promises 1 to 4, 20 and 25. */
final class LandsEdges {
    private static final String ALL_PLAYERS = "There are the players 0 to 3.";
    private static final String SIDES = "Tiles are numbered 8 * y + x, x and y from 0 to 7.";
    private static final String DISTANCE =
        "The distance of two tiles is the greater one of their differences in x and in y.";
    private static final String OUT_OF_RANGE = "Throws IllegalArgumentException if an argument is out of range";
    private static final int FAR = Integer.MAX_VALUE;

    private LandsEdges() {
    }

    // ---- Lands

    @Sentence(promise = 17, under = "Lands", says = SIDES)
    static void tilesAreNumberedByRows() {
        EmpireTurns game = new EmpireTurns();
        int rider = game.place(0, EmpireTurns.RIDER, 0);
        game.step(rider, 1, 0);
        Check.same("x 1", game.unit(rider, 2), 1);
        game.step(rider, 0, 1);
        Check.same("x 1, y 1", game.unit(rider, 2), 9);
    }

    @Sentence(promise = 17, under = "Lands", says = SIDES)
    static void rowsDoNotRunOn() {
        EmpireTurns game = new EmpireTurns();
        int right = game.place(0, EmpireTurns.RIDER, 15);
        int left = game.place(0, EmpireTurns.RIDER, 8);
        Check.badState("x 8 is not the next row", game, () -> game.step(right, 1, 0));
        Check.badState("x -1 is not the row before", game, () -> game.step(left, -1, 0));
        Check.badState("x 8, y 2", game, () -> game.step(right, 1, 1));
        Check.badState("x -1, y 0", game, () -> game.step(left, -1, -1));
    }

    @Sentence(promise = 17, under = "Lands", says = SIDES)
    static void rowsAndColumnsGoFromZeroToSeven() {
        int[][] steps = {{9, -1, -1, 0}, {14, 1, -1, 7}, {49, -1, 1, 56}, {54, 1, 1, 63}};
        for (int[] row : steps) {
            EmpireTurns game = new EmpireTurns();
            game.place(0, EmpireTurns.RIDER, row[0]);
            Check.holds("it can be stepped on", game.step(0, row[1], row[2]));
            Check.same("tile", game.unit(0, 2), row[3]);
        }
    }

    @Sentence(promise = 26, under = "Lands", says = DISTANCE)
    static void distanceIsTheGreaterDifference() {
        EmpireTurns game = new EmpireTurns();
        Games.city(game, 0, 27);
        Check.same("3 and 0", game.pull(0, 30), 1);
        Check.same("0 and 3", game.pull(0, 51), 1);
        Check.same("3 and 3", game.pull(0, 54), 1);
        Check.same("1 and 2", game.pull(0, 44), 2);
        Check.same("4 and 1", game.pull(0, 39), 0);
        Check.same("1 and 4", game.pull(0, 60), 0);
    }

    @Sentence(promise = 26, under = "Lands", says = DISTANCE)
    static void distanceDoesNotRunRoundTheEdge() {
        EmpireTurns game = new EmpireTurns();
        Games.city(game, 0, 7);
        Check.same("the next number, 7 away", game.pull(0, 8), 0);
        Check.same("the other end of the row", game.pull(0, 0), 0);
        Check.same("the other end of the column", game.pull(0, 63), 0);
        Check.same("below it", game.pull(0, 15), 5);
    }

    @Sentence(promise = 24, under = "Lands", says = "A tile has a land; its food, work and trade are: "
        + "SEA 2, 0, 2; PLAIN 2, 1, 0; HILL 1, 2, 0; FOREST 1, 2, 1; DESERT 0, 1, 1; RIVER 3, 0, 1.")
    static void landsGiveWhatIsTold() {
        int[][] due = {{2, 0, 2}, {2, 1, 0}, {1, 2, 0}, {1, 2, 1}, {0, 1, 1}, {3, 0, 1}};
        for (int land = EmpireTurns.SEA; land <= EmpireTurns.RIVER; land++) {
            EmpireTurns game = new EmpireTurns();
            Games.layAll(game, land);
            game.lay(27, EmpireTurns.PLAIN);
            Games.city(game, 0, 27);
            game.endTurn();
            // Its own tile gives 2, 1 and 1, and it works one more.
            Check.same("food of " + land, game.city(0, 8), 2 + due[land][0]);
            Check.same("work of " + land, game.city(0, 9), 1 + due[land][1]);
            Check.same("trade of " + land, game.city(0, 10), 1 + due[land][2]);
        }
    }

    @Sentence(promise = 18, under = "Lands", says = "A FARM is 1 food more, on PLAIN, DESERT or RIVER;")
    static void farms() {
        makes(EmpireTurns.PLAIN, EmpireTurns.FARM, 1, 0);
        makes(EmpireTurns.DESERT, EmpireTurns.FARM, 1, 0);
        makes(EmpireTurns.RIVER, EmpireTurns.FARM, 1, 0);
        cannotMake(EmpireTurns.HILL, EmpireTurns.FARM);
        cannotMake(EmpireTurns.FOREST, EmpireTurns.FARM);
    }

    @Sentence(promise = 18, under = "Lands", says = "a MINE is 1 work more, on HILL or DESERT;")
    static void mines() {
        makes(EmpireTurns.HILL, EmpireTurns.MINE, 0, 1);
        makes(EmpireTurns.DESERT, EmpireTurns.MINE, 0, 1);
        cannotMake(EmpireTurns.PLAIN, EmpireTurns.MINE);
        cannotMake(EmpireTurns.FOREST, EmpireTurns.MINE);
        cannotMake(EmpireTurns.RIVER, EmpireTurns.MINE);
    }

    /** No unit can stand on the SEA, so that a job there cannot even be tried. */
    @Sentence(promise = 18, under = "Lands", says = "a ROAD can be anywhere but on SEA.")
    static void roads() {
        for (int land = EmpireTurns.PLAIN; land <= EmpireTurns.RIVER; land++) {
            makes(land, EmpireTurns.ROAD, 0, 0);
        }
    }

    /** The tile 9 is the lowest one that the city can work, and all are of this land. */
    private static EmpireTurns worked(int land) {
        EmpireTurns game = new EmpireTurns();
        Games.layAll(game, land);
        game.lay(27, EmpireTurns.PLAIN);
        Games.city(game, 0, 27);
        game.place(0, EmpireTurns.WORKER, 9);
        game.endTurn();
        Check.same("plan", game.plan(0), 1L << 9);
        return game;
    }

    private static void makes(int land, int what, int food, int work) {
        EmpireTurns game = worked(land);
        int[] before = {game.city(0, 8), game.city(0, 9), game.city(0, 10)};
        game.work(1, what);
        Games.endTurns(game, 2);
        Check.same("made on " + land, game.tile(9, 1), what);
        Check.same("plan", game.plan(0), 1L << 9);
        Check.same("food of " + land, game.city(0, 8), before[0] + food);
        Check.same("work of " + land, game.city(0, 9), before[1] + work);
        Check.same("trade of " + land, game.city(0, 10), before[2]);
    }

    private static void cannotMake(int land, int what) {
        EmpireTurns game = worked(land);
        Check.badState(what + " on " + land, game, () -> game.work(1, what));
    }

    @Sentence(promise = 25, under = "Lands", says = "All tiles are PLAIN at first.")
    static void allArePlain() {
        EmpireTurns game = new EmpireTurns();
        for (int tile = 0; tile < 64; tile++) {
            Check.same("land of " + tile, game.tile(tile, 0), EmpireTurns.PLAIN);
        }
    }

    @Sentence(promise = 27, under = "Lands", says = ALL_PLAYERS)
    static void fourPlayers() {
        EmpireTurns game = new EmpireTurns();
        Check.range(game, 0, 3, v -> game.player(v, 0));
        Check.range(game, 0, 3, v -> game.place(v, EmpireTurns.GUARD, 10 + v));
    }

    @Sentence(promise = 27, under = "Lands", says = "They have no coins at first, learn nothing,")
    static void noCoinsAndNoGoal() {
        EmpireTurns game = new EmpireTurns();
        for (int player = 0; player < 4; player++) {
            Check.same("coins", game.player(player, 0), 0);
            Check.same("goal", game.player(player, 2), EmpireTurns.NONE);
            Check.same("learning", game.player(player, 1), 0);
        }
    }

    @Sentence(promise = 11, under = "Lands", says = "and use 50 of 100 parts of their trade for learning.")
    static void halfForLearning() {
        EmpireTurns game = new EmpireTurns();
        for (int player = 0; player < 4; player++) {
            Check.same("parts", game.setParts(player, 50), 50);
        }
        Games.layAll(game, EmpireTurns.SEA);
        game.lay(27, EmpireTurns.PLAIN);
        Games.city(game, 0, 27);
        Games.endTurns(game, 2);
        // The trade is 1 and then 3: 0 and 1 of it are for learning.
        Check.same("learning", game.player(0, 1), 1);
        Check.same("coins", game.player(0, 0), 3);
    }

    // ---- Promise 1

    @Sentence(promise = 1, says = "The turn 0;")
    static void theTurnIsZero() {
        EmpireTurns game = new EmpireTurns();
        Check.taken("lay, in the turn 0 alone", () -> game.lay(0, EmpireTurns.HILL));
        Check.same("the next turn", game.endTurn(), 1);
    }

    @Sentence(promise = 1, says = "no cities, units, crafts, treaties and borders.")
    static void nothingIsThere() {
        EmpireTurns game = new EmpireTurns();
        Check.noneFrom(game, 0, v -> game.city(v, 0));
        Check.noneFrom(game, 0, v -> game.unit(v, 0));
        Check.noneFrom(game, 0, v -> game.treaty(v, 0));
        for (int player = 0; player < 4; player++) {
            Check.same("crafts", game.player(player, 3), 0);
            Check.same("cities", game.player(player, 6), 0);
        }
        for (int tile = 0; tile < 64; tile++) {
            Check.same("whose", game.tile(tile, 2), EmpireTurns.NONE);
            Check.same("made", game.tile(tile, 1), 0);
            Check.same("city", game.tile(tile, 3), EmpireTurns.NONE);
            Check.same("units", game.unitsOn(tile), 0);
        }
    }

    // ---- Promise 2: lay

    @Sentence(promise = 2, says = "tile: 0 to 63")
    static void layTiles() {
        EmpireTurns game = new EmpireTurns();
        Check.range(game, 0, 63, v -> game.lay(v, EmpireTurns.HILL));
        Check.same("the first", game.tile(0, 0), EmpireTurns.HILL);
        Check.same("the last", game.tile(63, 0), EmpireTurns.HILL);
    }

    @Sentence(promise = 2, says = "land: SEA to RIVER")
    static void layLands() {
        EmpireTurns game = new EmpireTurns();
        Check.range(game, EmpireTurns.SEA, EmpireTurns.RIVER, v -> game.lay(0, v));
    }

    @Sentence(promise = 2, says = "Lays the land of a tile.")
    static void layChangesOneTile() {
        EmpireTurns game = new EmpireTurns();
        game.lay(9, EmpireTurns.DESERT);
        for (int tile = 0; tile < 64; tile++) {
            Check.same("land", game.tile(tile, 0), tile == 9 ? EmpireTurns.DESERT : EmpireTurns.PLAIN);
        }
    }

    @Sentence(promise = 2, says = "Returns the land before.")
    static void layReturnsTheLandBefore() {
        EmpireTurns game = new EmpireTurns();
        Check.same("at first", game.lay(5, EmpireTurns.SEA), EmpireTurns.PLAIN);
        Check.same("SEA", game.lay(5, EmpireTurns.RIVER), EmpireTurns.SEA);
        Check.same("the same again", game.lay(5, EmpireTurns.RIVER), EmpireTurns.RIVER);
    }

    @Sentence(promise = 2, says = OUT_OF_RANGE)
    static void layOutOfRange() {
        EmpireTurns game = new EmpireTurns();
        Check.badArgument("both", game, () -> game.lay(-FAR, FAR));
        Check.badArgument("a tile by wrap-around", game, () -> game.lay(Integer.MIN_VALUE + 64, 0));
    }

    @Sentence(promise = 2, says = "Throws IllegalStateException if the turn is not 0")
    static void layInTheTurnZeroAlone() {
        EmpireTurns game = new EmpireTurns();
        game.endTurn();
        Check.badState("turn 1", game, () -> game.lay(0, EmpireTurns.HILL));
    }

    @Sentence(promise = 2, says = "or a city or unit is on it")
    static void layNotBelowUnits() {
        EmpireTurns game = new EmpireTurns();
        int unit = game.place(3, EmpireTurns.WORKER, 0);
        Check.badState("a unit", game, () -> game.lay(0, EmpireTurns.HILL));
        game.step(unit, 1, 0);
        Check.taken("where it was", () -> game.lay(0, EmpireTurns.HILL));
    }

    @Sentence(promise = 2, says = "or a city or unit is on it")
    static void layNotBelowCities() {
        EmpireTurns game = new EmpireTurns();
        Games.city(game, 0, 63);
        Check.same("no unit", game.unitsOn(63), 0);
        Check.badState("a city", game, () -> game.lay(63, EmpireTurns.HILL));
        Check.taken("beside it", () -> game.lay(62, EmpireTurns.HILL));
    }

    // ---- Promise 3: need

    @Sentence(promise = 3, says = "craft: 0 to 9")
    static void needCrafts() {
        EmpireTurns game = new EmpireTurns();
        Check.same("the greatest", game.need(9, 0), 1);
        Check.same("1", game.need(1, 0), 1);
        Check.badArgument("10", game, () -> game.need(10, 0));
        Check.badArgument("-1", game, () -> game.need(-1, 0));
    }

    @Sentence(promise = 3, says = "other: 0 to craft - 1")
    static void needLesserOnes() {
        for (int craft = 1; craft <= 9; craft++) {
            EmpireTurns game = new EmpireTurns();
            int needing = craft;
            Check.range(game, 0, craft - 1, v -> game.need(needing, v));
        }
    }

    @Sentence(promise = 3, says = "other: 0 to craft - 1")
    static void needNothingBelowZero() {
        EmpireTurns game = new EmpireTurns();
        Check.badArgument("0 of itself", game, () -> game.need(0, 0));
        Check.badArgument("0 of -1", game, () -> game.need(0, -1));
    }

    @Sentence(promise = 3, says = "Lets a craft need another one.")
    static void needBarsLearning() {
        EmpireTurns game = new EmpireTurns();
        Check.taken("without a need", () -> game.learn(0, 3));
        game.need(3, 2);
        Check.badState("with it", game, () -> game.learn(0, 3));
        Check.taken("not the other one", () -> game.learn(0, 2));
    }

    @Sentence(promise = 3, says = "Returns how many it needs then; as many as before, if it does already.")
    static void needReturnsHowMany() {
        EmpireTurns game = new EmpireTurns();
        Check.same("one", game.need(5, 4), 1);
        Check.same("the same", game.need(5, 4), 1);
        Check.same("two", game.need(5, 0), 2);
        Check.same("the first again", game.need(5, 4), 2);
        Check.same("the second again", game.need(5, 0), 2);
    }

    @Sentence(promise = 3, says = OUT_OF_RANGE)
    static void needOutOfRange() {
        EmpireTurns game = new EmpireTurns();
        Check.badArgument("both", game, () -> game.need(FAR, -FAR));
        Check.badArgument("a greater one", game, () -> game.need(4, 5));
        Check.badArgument("32 is not 0", game, () -> game.need(9, 32));
        Check.badArgument("1 less than the least is the most", game, () -> game.need(Integer.MIN_VALUE, 5));
    }

    @Sentence(promise = 3, says = "Throws IllegalStateException if the turn is not 0")
    static void needInTheTurnZeroAlone() {
        EmpireTurns game = new EmpireTurns();
        game.need(2, 1);
        game.endTurn();
        Check.badState("another one", game, () -> game.need(2, 0));
        Check.badState("one that it needs", game, () -> game.need(2, 1));
    }

    @Sentence(promise = 3, says = "or it needs two others")
    static void needAtMostTwo() {
        EmpireTurns game = new EmpireTurns();
        game.need(9, 8);
        game.need(9, 0);
        Check.badState("a third", game, () -> game.need(9, 1));
        Check.same("another craft", game.need(8, 1), 1);
    }

    // ---- Promise 4: place

    @Sentence(promise = 4, says = "player: 0 to 3")
    static void placePlayers() {
        EmpireTurns game = new EmpireTurns();
        Check.range(game, 0, 3, v -> game.place(v, EmpireTurns.GUARD, 20 + v));
        Check.same("owner", game.unit(1, 0), 3);
    }

    @Sentence(promise = 4, says = "kind: SETTLER to RAM")
    static void placeKinds() {
        EmpireTurns game = new EmpireTurns();
        Check.range(game, EmpireTurns.SETTLER, EmpireTurns.RAM, v -> game.place(0, v, 20));
        Check.same("kind", game.unit(1, 1), EmpireTurns.RAM);
    }

    @Sentence(promise = 4, says = "tile: 0 to 63")
    static void placeTiles() {
        EmpireTurns game = new EmpireTurns();
        Check.range(game, 0, 63, v -> game.place(0, EmpireTurns.GUARD, v));
        Check.same("tile", game.unit(1, 2), 63);
    }

    @Sentence(promise = 4, says = "Puts a unit on a tile, at the beginning.")
    static void placePutsIt() {
        EmpireTurns game = new EmpireTurns();
        game.place(2, EmpireTurns.RAM, 20);
        int[] due = {2, EmpireTurns.RAM, 20, 10, 2, 0};
        for (int what = 0; what < due.length; what++) {
            Check.same("tells " + what, game.unit(0, what), due[what]);
        }
        Check.same("on the tile", game.unitsOn(20), 1);
    }

    @Sentence(promise = 4, says = "Returns its number.")
    static void placeReturnsTheNumber() {
        EmpireTurns game = new EmpireTurns();
        for (int i = 0; i < 5; i++) {
            Check.same("number", game.place(i % 4, EmpireTurns.SETTLER, 12 * i), i);
        }
        game.found(4);
        Check.same("that of the one that is gone is not used again", game.place(0, EmpireTurns.GUARD, 1), 5);
    }

    @Sentence(promise = 4, says = OUT_OF_RANGE)
    static void placeOutOfRange() {
        EmpireTurns game = new EmpireTurns();
        Check.badArgument("all", game, () -> game.place(FAR, FAR, FAR));
        Check.badArgument("all", game, () -> game.place(-FAR, -FAR, -FAR));
        Check.nothingThere("none came of it", game, () -> game.unit(0, 0));
    }

    @Sentence(promise = 4, says = "Throws IllegalStateException if the turn is not 0,")
    static void placeInTheTurnZeroAlone() {
        EmpireTurns game = new EmpireTurns();
        game.endTurn();
        Check.badState("turn 1", game, () -> game.place(0, EmpireTurns.GUARD, 0));
    }

    @Sentence(promise = 4, says = "the tile is SEA,")
    static void placeNotOnSea() {
        EmpireTurns game = new EmpireTurns();
        game.lay(8, EmpireTurns.SEA);
        Check.badState("SEA", game, () -> game.place(0, EmpireTurns.GUARD, 8));
        for (int land = EmpireTurns.PLAIN; land <= EmpireTurns.RIVER; land++) {
            int tile = 16 + land;
            game.lay(tile, land);
            Check.taken("land " + land, () -> game.place(0, EmpireTurns.GUARD, tile));
        }
    }

    @Sentence(promise = 4, says = "4 units or a unit or city of another player are on it,")
    static void placeAtMostFour() {
        EmpireTurns game = new EmpireTurns();
        for (int i = 0; i < 4; i++) {
            Check.taken("unit " + i, () -> game.place(0, EmpireTurns.GUARD, 9));
        }
        Check.badState("a fifth", game, () -> game.place(0, EmpireTurns.GUARD, 9));
        Check.taken("beside them", () -> game.place(0, EmpireTurns.GUARD, 10));
    }

    @Sentence(promise = 4, says = "4 units or a unit or city of another player are on it,")
    static void placeNotOnUnitsOfAnother() {
        EmpireTurns game = new EmpireTurns();
        game.place(0, EmpireTurns.GUARD, 9);
        Games.agree(game, 0, 1, EmpireTurns.PEACE, 5, 0);
        Check.badState("in peace", game, () -> game.place(1, EmpireTurns.GUARD, 9));
        Check.badState("at war", game, () -> game.place(2, EmpireTurns.GUARD, 9));
        Check.taken("the same player", () -> game.place(0, EmpireTurns.GUARD, 9));
    }

    @Sentence(promise = 4, says = "4 units or a unit or city of another player are on it,")
    static void placeNotInCitiesOfAnother() {
        EmpireTurns game = new EmpireTurns();
        Games.city(game, 0, 9);
        Check.badState("another one's", game, () -> game.place(1, EmpireTurns.GUARD, 9));
        Check.taken("an own one", () -> game.place(0, EmpireTurns.GUARD, 9));
    }

    @Sentence(promise = 4, says = "or there are 40 units")
    static void placeAtMostForty() {
        EmpireTurns game = new EmpireTurns();
        for (int i = 0; i < 40; i++) {
            int unit = i;
            Check.taken("unit " + i, () -> game.place(unit % 4, EmpireTurns.SETTLER, unit));
        }
        Check.badState("one more", game, () -> game.place(0, EmpireTurns.GUARD, 50));
        game.found(0);
        Check.taken("when one is gone", () -> game.place(0, EmpireTurns.GUARD, 50));
        Check.badState("again 40", game, () -> game.place(0, EmpireTurns.GUARD, 50));
    }

    // ---- Promise 20: unitsOn

    @Sentence(promise = 20, says = "Returns how many units are on a tile.")
    static void unitsOnCounts() {
        EmpireTurns game = new EmpireTurns();
        Check.same("none", game.unitsOn(9), 0);
        for (int i = 1; i <= 4; i++) {
            game.place(1, EmpireTurns.RAM, 9);
            Check.same("so many", game.unitsOn(9), i);
        }
        game.step(2, 1, 0);
        Check.same("one less", game.unitsOn(9), 3);
        Check.same("one more", game.unitsOn(10), 1);
    }

    @Sentence(promise = 20, says = "tile: 0 to 63")
    static void unitsOnTiles() {
        EmpireTurns game = new EmpireTurns();
        game.place(0, EmpireTurns.GUARD, 0);
        game.place(0, EmpireTurns.GUARD, 63);
        Check.same("the first", game.unitsOn(0), 1);
        Check.same("the last", game.unitsOn(63), 1);
    }

    @Sentence(promise = 20, says = "Throws IllegalArgumentException if tile is out of range")
    static void unitsOnOutOfRange() {
        EmpireTurns game = new EmpireTurns();
        Check.onlyFrom(game, 0, 63, v -> game.unitsOn(v));
    }

    // ---- Promise 25: tile

    @Sentence(promise = 25, says = "tile: 0 to 63")
    static void tileTiles() {
        EmpireTurns game = new EmpireTurns();
        Check.range(game, 0, 63, v -> game.tile(v, 0));
    }

    @Sentence(promise = 25, says = "what: 0 its land, 1 what was made there, FARM, MINE and ROAD together,")
    static void tileTellsLandAndWhatWasMade() {
        EmpireTurns game = worked(EmpireTurns.DESERT);
        Check.same("land", game.tile(9, 0), EmpireTurns.DESERT);
        int[] jobs = {EmpireTurns.ROAD, EmpireTurns.MINE, EmpireTurns.FARM};
        int made = 0;
        for (int job : jobs) {
            game.work(1, job);
            Check.same("not yet", game.tile(9, 1), made);
            Games.endTurns(game, 2);
            made += job;
            Check.same("together", game.tile(9, 1), made);
        }
        Check.same("the land stays", game.tile(9, 0), EmpireTurns.DESERT);
    }

    @Sentence(promise = 25, says = "2 whose it is, or NONE, 3 the city on it, or NONE")
    static void tileTellsWhoseAndWhichCity() {
        EmpireTurns game = new EmpireTurns();
        Games.city(game, 3, 27);
        Games.city(game, 0, 60);
        Check.same("whose", game.tile(27, 2), 3);
        Check.same("which city", game.tile(27, 3), 0);
        Check.same("which city", game.tile(60, 3), 1);
        Check.same("nobody's", game.tile(28, 2), EmpireTurns.NONE);
        Check.same("no city", game.tile(28, 3), EmpireTurns.NONE);
        game.endTurn();
        Check.same("whose", game.tile(28, 2), 3);
        Check.same("no city", game.tile(28, 3), EmpireTurns.NONE);
    }

    @Sentence(promise = 25, says = "Tells of a tile.")
    static void tileTellsFourThings() {
        EmpireTurns game = new EmpireTurns();
        Check.range(game, 0, 3, v -> game.tile(63, v));
    }

    @Sentence(promise = 25, says = OUT_OF_RANGE)
    static void tileOutOfRange() {
        EmpireTurns game = new EmpireTurns();
        Check.badArgument("both", game, () -> game.tile(-FAR, FAR));
        Check.onlyFrom(game, 0, 3, v -> game.tile(0, v));
    }
}
