/** Edges of units and their steps, without fights: the promises 17 to 19. */
final class UnitEdges {
    private static final String AT_MOST =
        "Units are numbered from 0; at most 40 are there at a time, at most 4 on a tile.";
    private static final String COSTS = "It costs 1 on PLAIN, DESERT and RIVER, or with a ROAD, otherwise 2 moves, "
        + "which have to be left.";
    private static final String ZONE = "A unit on a tile beside one on which a unit that keeps a zone of a player at war "
        + "with its owner stands cannot step to another such tile, unless that has a city or units of its owner.";
    private static final String SUPPLY = "A unit that is more than 4 away from all tiles of its owner's borders, or whose "
        + "owner has none, loses 1 in health at the end of a turn; others get 1, up to 10.";
    private static final String NO_UNIT = "Throws IndexOutOfBoundsException if there is no such unit";
    private static final int FAR = Integer.MAX_VALUE;

    private UnitEdges() {
    }

    // ---- Units

    @Sentence(promise = 4, under = "Units", says = AT_MOST)
    static void unitsAreNumberedFromZero() {
        EmpireTurns game = Games.scholars();
        Check.same("the next number", Games.LATE_SETTLER, 2);
        Games.makeAtOnce(game, EmpireTurns.GUARD);
        Check.same("made", game.unit(3, 1), EmpireTurns.GUARD);
        game.found(Games.LATE_SETTLER);
        Games.makeAtOnce(game, EmpireTurns.WORKER);
        Check.same("no number is used again", game.unit(4, 1), EmpireTurns.WORKER);
        Check.nothingThere("the one that is gone", game, () -> game.unit(2, 0));
    }

    @Sentence(promise = 4, under = "Units", says = AT_MOST)
    static void atMostFortyAtATime() {
        EmpireTurns game = new EmpireTurns();
        for (int i = 0; i < 40; i++) {
            game.place(i % 4, EmpireTurns.SETTLER, i);
        }
        Check.badState("one more", game, () -> game.place(0, EmpireTurns.GUARD, 63));
        game.found(39);
        Check.same("its number", game.place(0, EmpireTurns.GUARD, 63), 40);
    }

    @Sentence(promise = 17, under = "Units", says = AT_MOST)
    static void atMostFourOnATile() {
        EmpireTurns game = new EmpireTurns();
        for (int i = 0; i < 4; i++) {
            game.place(0, EmpireTurns.WORKER, 28);
        }
        int rider = game.place(0, EmpireTurns.RIDER, 27);
        Check.badState("a fifth", game, () -> game.step(rider, 1, 0));
        Check.badState("a fifth", game, () -> game.place(0, EmpireTurns.WORKER, 28));
        game.step(0, 1, 0);
        Check.holds("a fourth", game.step(rider, 1, 0));
        Check.same("on the tile", game.unitsOn(28), 4);
    }

    @Sentence(promise = 19, under = "Units", says = "A unit has a health, 10 at first, and moves left.")
    static void healthIsTenAtFirst() {
        EmpireTurns game = new EmpireTurns();
        for (int kind = EmpireTurns.SETTLER; kind <= EmpireTurns.RAM; kind++) {
            int unit = game.place(0, kind, 9 + kind);
            Check.same("health", game.unit(unit, 3), 10);
            int moves = game.unit(unit, 4);
            game.step(unit, 1, 0);
            Check.same("moves left", game.unit(unit, 4), moves - 1);
            game.step(unit, 0, 1);
            Check.same("moves left", game.unit(unit, 4), moves - 2);
        }
    }

    @Sentence(promise = 17, under = "Units", says = "To step is to go to a tile at the distance 1, which is no SEA.")
    static void stepsGoToTheEightTilesBeside() {
        for (int dx = -1; dx <= 1; dx++) {
            for (int dy = -1; dy <= 1; dy++) {
                if (dx != 0 || dy != 0) {
                    EmpireTurns game = new EmpireTurns();
                    game.place(0, EmpireTurns.GUARD, 27);
                    Check.holds("on that tile", game.step(0, dx, dy));
                    Check.same("tile", game.unit(0, 2), 27 + 8 * dy + dx);
                    Check.same("left", game.unitsOn(27), 0);
                }
            }
        }
    }

    @Sentence(promise = 17, under = "Units", says = "To step is to go to a tile at the distance 1, which is no SEA.")
    static void stepsDoNotGoToSea() {
        EmpireTurns game = new EmpireTurns();
        game.lay(28, EmpireTurns.SEA);
        game.place(0, EmpireTurns.RIDER, 27);
        Check.badState("SEA", game, () -> game.step(0, 1, 0));
        Check.holds("beside it", game.step(0, 1, 1));
    }

    @Sentence(promise = 17, under = "Units", says = COSTS)
    static void costsByLand() {
        int[] due = {0, 1, 2, 2, 1, 1};
        for (int land = EmpireTurns.PLAIN; land <= EmpireTurns.RIVER; land++) {
            EmpireTurns game = new EmpireTurns();
            game.lay(28, land);
            game.place(0, EmpireTurns.RIDER, 27);
            game.step(0, 1, 0);
            Check.same("land " + land, game.unit(0, 4), 4 - due[land]);
            game.step(0, -1, 0);
            Check.same("leaving it does not matter", game.unit(0, 4), 3 - due[land]);
        }
    }

    @Sentence(promise = 17, under = "Units", says = COSTS)
    static void roadsMakeItOne() {
        EmpireTurns game = new EmpireTurns();
        game.lay(28, EmpireTurns.HILL);
        game.lay(36, EmpireTurns.FOREST);
        Games.city(game, 0, 19);
        int[] workers = {game.place(0, EmpireTurns.WORKER, 28), game.place(0, EmpireTurns.WORKER, 36)};
        game.endTurn();
        for (int worker : workers) {
            game.work(worker, EmpireTurns.ROAD);
        }
        Games.endTurns(game, 2);
        Check.holds("to the HILL", game.step(workers[1], 0, -1));
        Check.same("1 for a ROAD on the HILL", game.unit(workers[1], 4), 1);
        Check.holds("to the FOREST", game.step(workers[1], 0, 1));
        Check.same("1 for a ROAD on the FOREST", game.unit(workers[1], 4), 0);
    }

    @Sentence(promise = 17, under = "Units", says = COSTS)
    static void minesAndFarmsAreNoRoads() {
        EmpireTurns game = new EmpireTurns();
        game.lay(28, EmpireTurns.HILL);
        Games.city(game, 0, 19);
        int worker = game.place(0, EmpireTurns.WORKER, 28);
        game.endTurn();
        game.work(worker, EmpireTurns.MINE);
        Games.endTurns(game, 2);
        game.step(worker, 1, 0);
        Check.badState("2 for a MINE on the HILL", game, () -> game.step(worker, -1, 0));
    }

    @Sentence(promise = 17, under = "Units", says = COSTS)
    static void theMovesHaveToBeLeft() {
        EmpireTurns game = new EmpireTurns();
        game.lay(29, EmpireTurns.FOREST);
        int guard = game.place(0, EmpireTurns.GUARD, 27);
        game.step(guard, 1, 0);
        Check.badState("1 of 2", game, () -> game.step(guard, 1, 0));
        Check.holds("1 of 1", game.step(guard, 0, 1));
        Check.badState("0 of 1", game, () -> game.step(guard, 0, -1));
        int other = game.place(0, EmpireTurns.GUARD, 28);
        Check.holds("2 of 2", game.step(other, 1, 0));
        Check.same("none is left", game.unit(other, 4), 0);
    }

    @Sentence(promise = 17, under = "Units", says = "A unit keeps a zone, if its attack is above 0.")
    static void unitsThatKeepZones() {
        for (int kind = EmpireTurns.SETTLER; kind <= EmpireTurns.RAM; kind++) {
            EmpireTurns game = new EmpireTurns();
            game.place(0, EmpireTurns.RIDER, 19);
            game.place(1, kind, 28);
            if (kind >= EmpireTurns.GUARD) {
                Check.badState("kind " + kind, game, () -> game.step(0, 1, 0));
            } else {
                Check.holds("kind " + kind, game.step(0, 1, 0));
            }
        }
    }

    @Sentence(promise = 17, under = "Units", says = ZONE)
    static void fromZoneToZoneIsBarred() {
        int[] beside = {19, 20, 21, 27, 29, 35, 36, 37};
        for (int from : beside) {
            for (int to : beside) {
                int dx = to % 8 - from % 8;
                int dy = to / 8 - from / 8;
                if (from != to && Math.abs(dx) <= 1 && Math.abs(dy) <= 1) {
                    EmpireTurns game = new EmpireTurns();
                    game.place(1, EmpireTurns.GUARD, 28);
                    game.place(0, EmpireTurns.RIDER, from);
                    Check.badState(from + " to " + to, game, () -> game.step(1, dx, dy));
                }
            }
        }
    }

    @Sentence(promise = 17, under = "Units", says = ZONE)
    static void intoAndOutOfZonesIsFree() {
        EmpireTurns game = new EmpireTurns();
        game.place(0, EmpireTurns.RIDER, 26);
        game.place(1, EmpireTurns.GUARD, 28);
        Check.holds("into it", game.step(0, 1, 0));
        Check.holds("out of it", game.step(0, -1, -1));
        Check.holds("into it at another tile", game.step(0, 1, 0));
        Check.badState("along it", game, () -> game.step(0, 1, 0));
    }

    @Sentence(promise = 17, under = "Units", says = ZONE)
    static void zonesOfDifferentUnits() {
        EmpireTurns game = new EmpireTurns();
        game.place(0, EmpireTurns.RIDER, 27);
        game.place(1, EmpireTurns.GUARD, 28);
        game.place(2, EmpireTurns.RAM, 17);
        Check.badState("of different players at war", game, () -> game.step(0, -1, 0));
        Games.agree(game, 0, 2, EmpireTurns.PEACE, 9, 0);
        Check.holds("one is in peace", game.step(0, -1, 0));
        Check.holds("so it does not come out of a zone", game.step(0, 1, 0));
    }

    @Sentence(promise = 17, under = "Units", says = ZONE)
    static void allUnitsAreBarredByZones() {
        for (int kind = EmpireTurns.SETTLER; kind <= EmpireTurns.RAM; kind++) {
            EmpireTurns game = new EmpireTurns();
            game.place(0, kind, 27);
            game.place(1, EmpireTurns.GUARD, 28);
            Check.badState("kind " + kind, game, () -> game.step(0, 0, 1));
        }
    }

    @Sentence(promise = 17, under = "Units", says = ZONE)
    static void zonesOfOwnUnitsDoNotBar() {
        EmpireTurns game = new EmpireTurns();
        game.place(0, EmpireTurns.RIDER, 27);
        game.place(0, EmpireTurns.GUARD, 28);
        Check.holds("an own zone", game.step(0, 0, 1));
    }

    @Sentence(promise = 17, under = "Units", says = ZONE)
    static void ownUnitsOpenZones() {
        EmpireTurns game = new EmpireTurns();
        int worker = game.place(0, EmpireTurns.WORKER, 35);
        int rider = game.place(0, EmpireTurns.RIDER, 27);
        game.place(1, EmpireTurns.GUARD, 28);
        Check.holds("to an own unit", game.step(rider, 0, 1));
        Check.holds("it goes", game.step(worker, -1, 0));
        Check.badState("where none is", game, () -> game.step(rider, 0, -1));
    }

    @Sentence(promise = 17, under = "Units", says = ZONE)
    static void ownCitiesOpenZones() {
        EmpireTurns game = new EmpireTurns();
        game.place(0, EmpireTurns.RIDER, 27);
        Games.city(game, 0, 35);
        game.place(1, EmpireTurns.GUARD, 28);
        Check.same("no unit is there", game.unitsOn(35), 0);
        Check.holds("to an own city", game.step(0, 0, 1));
    }

    // ---- Units in peace

    /** The unit 2 of the player 0, a RIDER, is on 27, beside the borders of the player 1 on 28. */
    private static EmpireTurns atTheBorder() {
        EmpireTurns game = new EmpireTurns();
        Games.city(game, 0, 25);
        Games.city(game, 1, 30);
        game.place(0, EmpireTurns.RIDER, 27);
        game.endTurn();
        Check.same("whose", game.tile(28, 2), 1);
        return game;
    }

    @Sentence(promise = 17, under = "Units",
        says = "In peace, tiles within the borders of the other player cannot be entered without a PASSAGE,")
    static void bordersBarInPeaceAlone() {
        EmpireTurns war = atTheBorder();
        Check.holds("at war", war.step(2, 1, 0));
        EmpireTurns peace = atTheBorder();
        Games.agree(peace, 0, 1, EmpireTurns.PEACE, 9, 0);
        Check.badState("in peace", peace, () -> peace.step(2, 1, 0));
        Check.holds("within own borders", peace.step(2, 0, 1));
        Games.agree(peace, 0, 1, EmpireTurns.PASSAGE, 9, 0);
        Check.holds("with a PASSAGE", peace.step(2, 1, 0));
    }

    @Sentence(promise = 17, under = "Units",
        says = "In peace, tiles within the borders of the other player cannot be entered without a PASSAGE,")
    static void bordersBarTilesWithinThemToo() {
        EmpireTurns game = atTheBorder();
        game.step(2, 1, 0);
        Games.agree(game, 0, 1, EmpireTurns.PEACE, 9, 0);
        Check.badState("from within to within", game, () -> game.step(2, 0, 1));
        Check.holds("from within to own ones", game.step(2, -1, 0));
    }

    @Sentence(promise = 17, under = "Units",
        says = "In peace, tiles within the borders of the other player cannot be entered without a PASSAGE,")
    static void aPassageWithAnotherPlayerDoesNotHelp() {
        EmpireTurns game = atTheBorder();
        Games.agree(game, 0, 1, EmpireTurns.PEACE, 9, 0);
        Games.agree(game, 0, 2, EmpireTurns.PEACE, 9, 0);
        Games.agree(game, 0, 2, EmpireTurns.PASSAGE, 9, 0);
        Check.badState("a PASSAGE with 2", game, () -> game.step(2, 1, 0));
        Games.agree(game, 1, 0, EmpireTurns.PASSAGE, 1, 0);
        game.endTurn();
        Check.badState("a PASSAGE that has run out", game, () -> game.step(2, 1, 0));
    }

    @Sentence(promise = 17, under = "Units", says = "nor his cities at all,")
    static void citiesCannotBeEnteredInPeace() {
        EmpireTurns game = new EmpireTurns();
        Games.city(game, 1, 28);
        game.place(0, EmpireTurns.RIDER, 27);
        Games.agree(game, 0, 1, EmpireTurns.PEACE, 9, 0);
        Check.badState("without a PASSAGE", game, () -> game.step(1, 1, 0));
        Games.agree(game, 0, 1, EmpireTurns.PASSAGE, 9, 0);
        Check.badState("with a PASSAGE", game, () -> game.step(1, 1, 0));
        Check.same("the city", game.city(0, 0), 1);
    }

    @Sentence(promise = 17, under = "Units", says = "and his units cannot be stepped on.")
    static void unitsCannotBeSteppedOnInPeace() {
        EmpireTurns game = new EmpireTurns();
        game.place(0, EmpireTurns.RIDER, 27);
        game.place(1, EmpireTurns.WORKER, 28);
        Games.agree(game, 0, 1, EmpireTurns.PEACE, 9, 0);
        Check.badState("on nobody's tile", game, () -> game.step(0, 1, 0));
        Games.agree(game, 0, 1, EmpireTurns.PASSAGE, 9, 0);
        Check.badState("with a PASSAGE", game, () -> game.step(0, 1, 0));
        Check.same("health", game.unit(1, 3), 10);
    }

    // ---- Supply

    @Sentence(promise = 21, under = "Units", says = SUPPLY)
    static void fourAwayIsNear() {
        // At the end of the turn the borders go from the city on 24 to x 3.
        EmpireTurns game = new EmpireTurns();
        Games.city(game, 0, 24);
        game.place(0, EmpireTurns.GUARD, 31);
        game.endTurn();
        Check.same("4 away from the tile 27", game.unit(1, 3), 10);
        EmpireTurns other = new EmpireTurns();
        Games.city(other, 0, 24);
        Games.city(other, 1, 29);
        other.place(0, EmpireTurns.GUARD, 31);
        other.endTurn();
        Check.same("the last tile", other.tile(26, 2), 0);
        Check.holds("not x 3", other.tile(27, 2) != 0 && other.tile(3, 2) != 0 && other.tile(51, 2) != 0);
        Check.same("5 away from the tile 26", other.unit(2, 3), 9);
    }

    /** All tiles beside the new city on the tile 0 are pulled more by old ones on 3 and 24. */
    @Sentence(promise = 21, under = "Units", says = SUPPLY)
    static void oneTileKeepsInSupply() {
        EmpireTurns game = new EmpireTurns();
        Games.layAll(game, EmpireTurns.DESERT);
        Games.city(game, 1, 3);
        Games.city(game, 2, 24);
        Games.city(game, 0, 63);
        int settler = game.place(0, EmpireTurns.SETTLER, 0);
        int near = game.place(0, EmpireTurns.GUARD, 4);
        int rider = game.place(2, EmpireTurns.RIDER, 51);
        Games.endTurns(game, 11);
        game.found(settler);
        int[][] ways = {{1, 0}, {1, 0}, {1, 1}, {1, 0}};
        for (int[] way : ways) {
            Check.holds("on its way to 63", game.step(rider, way[0], way[1]));
        }
        Check.same("in health", game.unit(near, 3), 10);
        game.endTurn();
        int held = 0;
        for (int tile = 0; tile < 64; tile++) {
            held += game.tile(tile, 2) == 0 ? 1 : 0;
        }
        Check.same("one tile alone", held, 1);
        Check.same("4 away from it", game.unit(near, 3), 10);
        game.step(near, 1, 0);
        game.endTurn();
        Check.same("5 away from it", game.unit(near, 3), 9);
    }

    @Sentence(promise = 21, under = "Units", says = SUPPLY)
    static void healthComesBackUpToTen() {
        EmpireTurns game = new EmpireTurns();
        Games.city(game, 0, 25);
        game.place(0, EmpireTurns.GUARD, 27);
        game.place(1, EmpireTurns.GUARD, 28);
        game.step(1, 1, 0);
        // 200 to 400: it loses 1 and 6.
        for (int health = 3; health <= 10; health++) {
            Check.same("health", game.unit(1, 3), health);
            game.endTurn();
        }
        Check.same("and no more", game.unit(1, 3), 10);
    }

    @Sentence(promise = 21, under = "Units", says = SUPPLY)
    static void withoutBordersAllLoseHealth() {
        EmpireTurns game = Games.withoutBorders();
        for (int health = 9; health > 0; health--) {
            game.endTurn();
            Check.same("health", game.unit(Games.LONELY, 3), health);
        }
        game.endTurn();
        Check.holds("without health it is gone", !Games.isThere(game, Games.LONELY));
        Check.same("nobody is there", game.unitsOn(8), 0);
    }

    // ---- Promise 17: step

    @Sentence(promise = 17, says = "Lets a unit step, fight or take a city.")
    static void stepStepsFightsAndTakes() {
        EmpireTurns game = new EmpireTurns();
        game.place(0, EmpireTurns.RIDER, 26);
        game.place(1, EmpireTurns.GUARD, 36);
        Games.city(game, 1, 20);
        Check.holds("a step", game.step(0, 1, 0));
        Check.holds("a city of the size 1 is destroyed", game.step(0, 1, -1));
        Check.same("no city", game.tile(20, 3), EmpireTurns.NONE);
        game.place(0, EmpireTurns.RIDER, 35);
        Check.holds("a fight", !game.step(3, 1, 0));
        Check.same("health", game.unit(3, 3), 5);
    }

    @Sentence(promise = 17, says = "A job that it has is given up.")
    static void stepsGiveJobsUp() {
        EmpireTurns game = new EmpireTurns();
        game.lay(26, EmpireTurns.SEA);
        Games.city(game, 0, 19);
        int worker = game.place(0, EmpireTurns.WORKER, 27);
        game.endTurn();
        game.work(worker, EmpireTurns.FARM);
        Check.badState("a step without moves", game, () -> game.step(worker, 1, 0));
        Check.same("does not give it up", game.unit(worker, 5), 2);
        game.endTurn();
        Check.badState("a step that it cannot do", game, () -> game.step(worker, -1, 0));
        Check.same("does not give it up", game.unit(worker, 5), 1);
        game.step(worker, 1, 0);
        Check.same("a step does", game.unit(worker, 5), 0);
        game.step(worker, -1, 0);
        Check.same("though it comes back", game.unit(worker, 5), 0);
        Games.endTurns(game, 2);
        Check.same("not made", game.tile(27, 1), 0);
        Check.same("nor where it was", game.tile(28, 1), 0);
    }

    @Sentence(promise = 17, says = "dx: -1 to 1")
    static void stepDx() {
        EmpireTurns game = new EmpireTurns();
        game.place(0, EmpireTurns.RIDER, 27);
        Check.range(game, -1, 1, v -> game.step(0, v, 1));
    }

    @Sentence(promise = 17, says = "dy: -1 to 1, not both 0")
    static void stepDy() {
        EmpireTurns game = new EmpireTurns();
        game.place(0, EmpireTurns.RIDER, 27);
        Check.range(game, -1, 1, v -> game.step(0, 1, v));
        Check.badArgument("both 0", game, () -> game.step(0, 0, 0));
        Check.taken("dy alone 0", () -> game.step(0, -1, 0));
        Check.taken("dx alone 0", () -> game.step(0, 0, -1));
    }

    @Sentence(promise = 17, says = "Returns whether it is on that tile then.")
    static void stepReturnsWhetherItIsThere() {
        EmpireTurns game = new EmpireTurns();
        game.place(0, EmpireTurns.RAM, 27);
        game.place(0, EmpireTurns.RAM, 27);
        game.place(1, EmpireTurns.WORKER, 28);
        Check.holds("a fight that leaves both", !game.step(0, 1, 0));
        Check.same("tile", game.unit(0, 2), 27);
        Check.holds("a fight that leaves one", game.step(1, 1, 0));
        Check.same("tile", game.unit(1, 2), 28);
        Check.holds("a step", game.step(game.place(0, EmpireTurns.RAM, 27), 0, 1));
    }

    @Sentence(promise = 17, says = NO_UNIT)
    static void stepWithoutUnit() {
        EmpireTurns game = new EmpireTurns();
        Games.city(game, 0, 27);
        Check.nothingThere("the one that is gone", game, () -> game.step(0, 1, 0));
        Check.noneFrom(game, 1, v -> game.step(v, 1, 0));
    }

    @Sentence(promise = 17, says = "Throws IllegalArgumentException if dx or dy is out of range")
    static void stepOutOfRange() {
        EmpireTurns game = new EmpireTurns();
        game.place(0, EmpireTurns.RIDER, 27);
        Check.onlyFrom(game, -1, 1, v -> game.step(0, v, 0));
        Check.onlyFrom(game, -1, 1, v -> game.step(0, 0, v));
        Check.badArgument("both", game, () -> game.step(0, FAR, -FAR));
    }

    @Sentence(promise = 17, says = "Throws IllegalStateException if it cannot: beyond the tiles,")
    static void stepBeyondTheTiles() {
        int[][] out = {{0, -1, 0}, {0, 0, -1}, {0, -1, 1}, {0, 1, -1}, {7, 1, 0}, {7, 1, 1}, {7, 0, -1}, {7, -1, -1},
            {56, 0, 1}, {56, -1, 0}, {56, -1, -1}, {56, 1, 1}, {63, 1, 0}, {63, 0, 1}, {63, 1, -1}, {63, -1, 1}};
        for (int[] row : out) {
            EmpireTurns game = new EmpireTurns();
            game.place(0, EmpireTurns.RIDER, row[0]);
            Check.badState(row[0] + " by " + row[1] + ", " + row[2], game, () -> game.step(0, row[1], row[2]));
        }
    }

    @Sentence(promise = 17, says = "SEA,")
    static void stepToSea() {
        EmpireTurns game = new EmpireTurns();
        game.lay(19, EmpireTurns.SEA);
        game.place(0, EmpireTurns.RIDER, 27);
        Check.badState("SEA", game, () -> game.step(0, 0, -1));
    }

    @Sentence(promise = 17, says = "too few moves left,")
    static void stepWithTooFewMoves() {
        EmpireTurns game = new EmpireTurns();
        game.place(0, EmpireTurns.SETTLER, 27);
        game.step(0, 1, 0);
        game.step(0, 1, 0);
        Check.badState("none is left", game, () -> game.step(0, 1, 0));
        Games.city(game, 0, 56);
        game.endTurn();
        Check.holds("in the next turn", game.step(0, 1, 0));
    }

    @Sentence(promise = 17, says = "a zone,")
    static void stepBarredByAZone() {
        EmpireTurns game = new EmpireTurns();
        game.place(0, EmpireTurns.RIDER, 27);
        game.place(1, EmpireTurns.GUARD, 28);
        Check.badState("along it", game, () -> game.step(0, 0, 1));
        Games.agree(game, 0, 1, EmpireTurns.PEACE, 9, 0);
        Check.holds("in peace there is none", game.step(0, 0, 1));
    }

    @Sentence(promise = 17, says = "borders,")
    static void stepBarredByBorders() {
        EmpireTurns game = atTheBorder();
        Games.agree(game, 1, 0, EmpireTurns.PEACE, 1, 0);
        Check.badState("in peace", game, () -> game.step(2, 1, 0));
        game.endTurn();
        Check.holds("when the PEACE has run out", game.step(2, 1, 0));
    }

    @Sentence(promise = 17, says = "units in peace,")
    static void stepBarredByUnitsInPeace() {
        EmpireTurns game = new EmpireTurns();
        game.place(0, EmpireTurns.WORKER, 27);
        game.place(1, EmpireTurns.WORKER, 28);
        Games.agree(game, 0, 1, EmpireTurns.PEACE, 9, 0);
        Check.badState("a unit in peace", game, () -> game.step(0, 1, 0));
        game.step(1, 1, 0);
        Check.holds("when it has gone", game.step(0, 1, 0));
    }

    @Sentence(promise = 17, says = "4 units there,")
    static void stepToFourUnits() {
        EmpireTurns game = new EmpireTurns();
        Games.city(game, 0, 28);
        int rider = game.place(0, EmpireTurns.RIDER, 27);
        for (int i = 0; i < 4; i++) {
            game.place(0, EmpireTurns.WORKER, 28);
        }
        Check.badState("4 units, in an own city", game, () -> game.step(rider, 1, 0));
    }

    @Sentence(promise = 17, says = "or no attack")
    static void stepWithoutAttack() {
        for (int kind = EmpireTurns.SETTLER; kind <= EmpireTurns.WORKER; kind++) {
            EmpireTurns game = new EmpireTurns();
            int unit = game.place(0, kind, 27);
            game.place(1, EmpireTurns.SETTLER, 28);
            Games.city(game, 1, 20);
            Check.badState("a unit", game, () -> game.step(unit, 1, 0));
            Check.badState("a city", game, () -> game.step(unit, 1, -1));
        }
    }

    // ---- Promise 18: work

    /** The WORKER 1 is on the tile 28 of this land, within the borders of its owner. */
    private static EmpireTurns worker(int land) {
        EmpireTurns game = new EmpireTurns();
        game.lay(28, land);
        Games.city(game, 0, 27);
        game.place(0, EmpireTurns.WORKER, 28);
        game.endTurn();
        return game;
    }

    @Sentence(promise = 18, says = "Gives a WORKER a job for two turns, in place of one that it has, which goes on "
        + "whatever becomes of borders; it has no moves left then.")
    static void jobsTakeTwoTurns() {
        EmpireTurns game = worker(EmpireTurns.DESERT);
        game.work(1, EmpireTurns.FARM);
        Check.same("turns left", game.unit(1, 5), 2);
        Check.same("no moves left", game.unit(1, 4), 0);
        game.endTurn();
        Check.same("turns left", game.unit(1, 5), 1);
        Check.same("not made", game.tile(28, 1), 0);
        game.endTurn();
        Check.same("turns left", game.unit(1, 5), 0);
        Check.same("made", game.tile(28, 1), EmpireTurns.FARM);
    }

    @Sentence(promise = 18, says = "in place of one that it has,")
    static void anotherJobComesInPlace() {
        EmpireTurns game = worker(EmpireTurns.DESERT);
        game.work(1, EmpireTurns.FARM);
        game.endTurn();
        game.work(1, EmpireTurns.MINE);
        Check.same("turns left", game.unit(1, 5), 2);
        Games.endTurns(game, 2);
        Check.same("the later one alone", game.tile(28, 1), EmpireTurns.MINE);
        Games.endTurns(game, 2);
        Check.same("and no more", game.tile(28, 1), EmpireTurns.MINE);
    }

    @Sentence(promise = 18, says = "which goes on whatever becomes of borders;")
    static void jobsGoOnWithoutBorders() {
        EmpireTurns lost = new EmpireTurns();
        Games.city(lost, 0, 27);
        Games.city(lost, 0, 63);
        Games.city(lost, 1, 7);
        int worker = lost.place(0, EmpireTurns.WORKER, 25);
        int rider = lost.place(1, EmpireTurns.RIDER, 28);
        lost.endTurn();
        lost.work(worker, EmpireTurns.FARM);
        lost.step(rider, -1, 0);
        Games.endTurns(lost, 2);
        Check.same("nobody's", lost.tile(25, 2), EmpireTurns.NONE);
        Check.same("made", lost.tile(25, 1), EmpireTurns.FARM);
    }

    @Sentence(promise = 18, says = "what: FARM, MINE or ROAD")
    static void workWhat() {
        EmpireTurns game = worker(EmpireTurns.DESERT);
        int[] good = {EmpireTurns.FARM, EmpireTurns.MINE, EmpireTurns.ROAD};
        for (int what : good) {
            Check.taken("" + what, () -> game.work(1, what));
            game.endTurn();
        }
    }

    @Sentence(promise = 18, says = NO_UNIT)
    static void workWithoutUnit() {
        EmpireTurns game = worker(EmpireTurns.PLAIN);
        Check.nothingThere("the one that is gone", game, () -> game.work(0, EmpireTurns.FARM));
        Check.noneFrom(game, 2, v -> game.work(v, EmpireTurns.FARM));
    }

    @Sentence(promise = 18, says = "Throws IllegalArgumentException if what is out of range")
    static void workOutOfRange() {
        EmpireTurns game = worker(EmpireTurns.DESERT);
        int[] bad = {-1, 0, 3, 5, 6, 7, 8, Integer.MIN_VALUE, FAR};
        for (int what : bad) {
            Check.badArgument("" + what, game, () -> game.work(1, what));
        }
    }

    @Sentence(promise = 18, says = "Throws IllegalStateException if it is no WORKER,")
    static void workOfOthers() {
        for (int kind = EmpireTurns.SETTLER; kind <= EmpireTurns.RAM; kind++) {
            EmpireTurns game = new EmpireTurns();
            Games.city(game, 0, 27);
            game.place(0, kind, 27);
            if (kind == EmpireTurns.WORKER) {
                Check.taken("a WORKER", () -> game.work(1, EmpireTurns.ROAD));
            } else {
                Check.badState("kind " + kind, game, () -> game.work(1, EmpireTurns.ROAD));
            }
        }
    }

    @Sentence(promise = 18, says = "or has no moves left,")
    static void workWithoutMoves() {
        EmpireTurns game = worker(EmpireTurns.DESERT);
        game.step(1, 0, 1);
        Check.taken("1 left", () -> game.work(1, EmpireTurns.ROAD));
        Check.badState("0 left", game, () -> game.work(1, EmpireTurns.FARM));
        game.endTurn();
        Check.taken("in the next turn", () -> game.work(1, EmpireTurns.FARM));
    }

    @Sentence(promise = 18, says = "the tile is not within the borders of its owner,")
    static void workOutsideOfBorders() {
        EmpireTurns game = new EmpireTurns();
        Games.city(game, 0, 25);
        Games.city(game, 1, 30);
        int own = game.place(0, EmpireTurns.WORKER, 27);
        int others = game.place(0, EmpireTurns.WORKER, 28);
        int nobodys = game.place(1, EmpireTurns.WORKER, 63);
        Check.badState("nobody's at first", game, () -> game.work(own, EmpireTurns.ROAD));
        game.endTurn();
        Check.taken("within", () -> game.work(own, EmpireTurns.ROAD));
        Check.same("whose", game.tile(28, 2), 1);
        Check.badState("another one's", game, () -> game.work(others, EmpireTurns.ROAD));
        Check.same("whose", game.tile(63, 2), EmpireTurns.NONE);
        Check.badState("nobody's", game, () -> game.work(nobodys, EmpireTurns.ROAD));
        Games.agree(game, 0, 1, EmpireTurns.PEACE, 9, 0);
        Games.agree(game, 0, 1, EmpireTurns.PASSAGE, 9, 0);
        Check.badState("another one's with a PASSAGE", game, () -> game.work(others, EmpireTurns.ROAD));
    }

    @Sentence(promise = 18, says = "cannot have it")
    static void workThatCannotBeThere() {
        int[][] bad = {{EmpireTurns.PLAIN, EmpireTurns.MINE}, {EmpireTurns.HILL, EmpireTurns.FARM},
            {EmpireTurns.FOREST, EmpireTurns.FARM}, {EmpireTurns.FOREST, EmpireTurns.MINE},
            {EmpireTurns.RIVER, EmpireTurns.MINE}};
        for (int[] row : bad) {
            EmpireTurns game = worker(row[0]);
            Check.badState(row[1] + " on " + row[0], game, () -> game.work(1, row[1]));
            Check.taken("but a ROAD", () -> game.work(1, EmpireTurns.ROAD));
        }
    }

    @Sentence(promise = 18, says = "or has it")
    static void workThatIsThere() {
        int[] jobs = {EmpireTurns.FARM, EmpireTurns.MINE, EmpireTurns.ROAD};
        EmpireTurns game = worker(EmpireTurns.DESERT);
        for (int job : jobs) {
            game.work(1, job);
            Games.endTurns(game, 2);
            Check.badState("once more " + job, game, () -> game.work(1, job));
        }
        Check.same("all", game.tile(28, 1), 7);
    }

    // ---- Promise 19: unit

    @Sentence(promise = 19, says = "Tells of a unit.")
    static void unitTellsSixThings() {
        EmpireTurns game = new EmpireTurns();
        game.place(0, EmpireTurns.GUARD, 27);
        Check.range(game, 0, 5, v -> game.unit(0, v));
    }

    @Sentence(promise = 19, says = "what: 0 its owner, 1 its kind, 2 its tile, 3 its health, 4 the moves left, "
        + "5 the turns left of its job")
    static void unitTellsWhatItIs() {
        EmpireTurns game = worker(EmpireTurns.PLAIN);
        game.step(1, 1, 1);
        int[] stepped = {0, EmpireTurns.WORKER, 37, 10, 1, 0};
        for (int what = 0; what < stepped.length; what++) {
            Check.same("tells " + what, game.unit(1, what), stepped[what]);
        }
        game.work(1, EmpireTurns.ROAD);
        int[] working = {0, EmpireTurns.WORKER, 37, 10, 0, 2};
        for (int what = 0; what < working.length; what++) {
            Check.same("tells " + what, game.unit(1, what), working[what]);
        }
    }

    @Sentence(promise = 19, says = NO_UNIT)
    static void unitWithoutUnit() {
        EmpireTurns game = new EmpireTurns();
        Games.city(game, 0, 27);
        game.place(0, EmpireTurns.GUARD, 0);
        Check.nothingThere("the one that is gone", game, () -> game.unit(0, 0));
        Check.noneFrom(game, 2, v -> game.unit(v, 0));
    }

    @Sentence(promise = 19, says = "Throws IllegalArgumentException if what is out of range")
    static void unitOutOfRange() {
        EmpireTurns game = new EmpireTurns();
        game.place(0, EmpireTurns.GUARD, 27);
        Check.onlyFrom(game, 0, 5, v -> game.unit(0, v));
    }
}
