/** Edges of what the end of a turn does, and of the promises 21, 27 and 28. */
final class TurnEdges {
    private static final String FOOD =
        "For each city, by rising numbers, with its plan: the store of food gets its food less 2 times its size.";
    private static final String HUNGER = "If it is below 0, it becomes 0, and the size 1 less, but at least 1.";
    private static final String GROWTH = "If it is at least 10 and 5 times the size, that is taken out of it (with a "
        + "GRANARY half of that comes back), and the size is 1 more.";
    private static final String WORK = "The store of work gets its work; if it is at least the cost of the first work, "
        + "that is made, and the cost taken out.";
    private static final String TRADE = "Of its trade, the part for learning, and the rest, go to its owner, each with "
        + "half of it more for LIBRARY and MARKET.";
    private static final String UPKEEP = "Then upkeep: 1 coin for each building, and for each unit above 2 for each city;";
    private static final String UNITS_GO = "as long as there are not so many, the player's unit with the highest number "
        + "is gone, and 1 less is to be paid, whatever it cost;";
    private static final String FORGIVEN = "without units the rest is forgiven, and the coins are 0.";
    private static final String SCORE = "The score of a player is 3 times the sizes of his cities, 5 for each craft, 1 for "
        + "each tile, his coins divided by 20, together, less 10 for each breach.";
    private static final String OUT_OF_RANGE = "Throws IllegalArgumentException if an argument is out of range";

    private TurnEdges() {
    }

    private static EmpireTurns plainCity() {
        EmpireTurns game = new EmpireTurns();
        Games.city(game, 0, 27);
        return game;
    }

    // ---- (1) cities

    @Sentence(promise = 21, under = "Turns", says = FOOD)
    static void foodComesAndIsEaten() {
        EmpireTurns game = plainCity();
        // Without a plan at first 2 less 2, and 4 less 2 then.
        for (int turn = 1; turn <= 8; turn++) {
            game.endTurn();
            Check.same("store in the turn " + turn, game.city(0, 3), 2 * (turn - 1));
        }
    }

    @Sentence(promise = 21, under = "Turns", says = FOOD)
    static void citiesComeByRisingNumbers() {
        // The last place of 40 goes to the city with the lower number.
        EmpireTurns game = Games.fortyUnits();
        game.queue(0, EmpireTurns.WORKER);
        int[] settlers = {Games.firstUnit(game, EmpireTurns.SETTLER)};
        for (int settler : settlers) {
            game.found(settler);
        }
        int before = game.unitsOn(3);
        game.endTurn();
        Check.same("made by the city 0", game.unitsOn(0), 1);
        Check.same("not by the city 1", game.unitsOn(3), before);
    }

    /** The city 0 has the size 2 and 4 in its store, 2 food of its own tile, and no other food. */
    private static EmpireTurns hungry() {
        EmpireTurns game = new EmpireTurns();
        Games.layAll(game, EmpireTurns.DESERT);
        game.lay(28, EmpireTurns.RIVER);
        game.lay(36, EmpireTurns.RIVER);
        Games.city(game, 0, 27);
        Games.city(game, 1, 31);
        int[] foes = {game.place(1, EmpireTurns.WORKER, 29), game.place(1, EmpireTurns.WORKER, 37)};
        game.order(0, 9, 1, 1);
        Games.endTurns(game, 7);
        for (int foe : foes) {
            game.step(foe, -1, 0);
        }
        Check.same("size", game.city(0, 2), 2);
        Check.same("store", game.city(0, 3), 4);
        Check.same("food", game.city(0, 8), 2);
        return game;
    }

    @Sentence(promise = 21, under = "Turns", says = HUNGER)
    static void aStoreOfZeroIsNoHunger() {
        EmpireTurns game = hungry();
        Games.endTurns(game, 2);
        Check.same("store", game.city(0, 3), 0);
        Check.same("size", game.city(0, 2), 2);
    }

    @Sentence(promise = 21, under = "Turns", says = HUNGER)
    static void belowZeroTheCityIsSmaller() {
        EmpireTurns game = hungry();
        Games.endTurns(game, 3);
        Check.same("store", game.city(0, 3), 0);
        Check.same("size", game.city(0, 2), 1);
        Games.endTurns(game, 3);
        Check.same("at least 1", game.city(0, 2), 1);
        Check.same("store", game.city(0, 3), 0);
    }

    @Sentence(promise = 21, under = "Turns", says = HUNGER)
    static void hungerTakesOneOfTheSizeATurn() {
        EmpireTurns game = Games.threeHungry();
        Check.same("store", game.city(0, 3), 0);
        Check.same("5 food for 6", game.city(0, 8), 5);
        game.endTurn();
        Check.same("the size 1 less", game.city(0, 2), 2);
        Check.same("store", game.city(0, 3), 0);
        game.endTurn();
        Check.same("4 food for 4", game.city(0, 2), 2);
    }

    @Sentence(promise = 21, under = "Turns", says = GROWTH)
    static void justEnoughFoodMakesItGrow() {
        EmpireTurns game = new EmpireTurns();
        Games.layAll(game, EmpireTurns.RIVER);
        game.lay(27, EmpireTurns.PLAIN);
        Games.city(game, 0, 27);
        // 3 more each turn but the first, so that 15 are there just in the turn 6; 4 more then, and 20 in 11.
        Games.endTurns(game, 5);
        Check.same("12 of 15", game.city(0, 2), 1);
        game.endTurn();
        Check.same("15 of 15", game.city(0, 2), 2);
        Check.same("taken out", game.city(0, 3), 0);
        Games.endTurns(game, 4);
        Check.same("16 of 20", game.city(0, 2), 2);
        game.endTurn();
        Check.same("20 of 20", game.city(0, 2), 3);
        Check.same("taken out", game.city(0, 3), 0);
    }

    @Sentence(promise = 21, under = "Turns", says = GROWTH)
    static void oneFoodTooFewDoesNotMakeItGrow() {
        EmpireTurns game = plainCity();
        Games.endTurns(game, 8);
        Check.same("14 of 15", game.city(0, 3), 14);
        Check.same("size", game.city(0, 2), 1);
        game.endTurn();
        Check.same("16 less 15", game.city(0, 3), 1);
        Check.same("size", game.city(0, 2), 2);
        Games.endTurns(game, 9);
        Check.same("19 of 20", game.city(0, 3), 19);
        Check.same("size", game.city(0, 2), 2);
        game.endTurn();
        Check.same("21 less 20", game.city(0, 3), 1);
        Check.same("size", game.city(0, 2), 3);
    }

    @Sentence(promise = 21, under = "Turns", says = GROWTH)
    static void itGrowsOnceATurn() {
        EmpireTurns game = Games.muchFoodForTheSizeOne();
        Check.same("size", game.city(0, 2), 1);
        int store = game.city(0, 3) + game.city(0, 8) - 2;
        Check.holds("enough for the sizes 1 and 2", store >= 15 + 20);
        game.endTurn();
        Check.same("the size 1 more", game.city(0, 2), 2);
        Check.same("the rest stays", game.city(0, 3), store - 15);
    }

    @Sentence(promise = 21, under = "Turns", says = GROWTH)
    static void aGranaryGivesHalfBackRoundedDown() {
        EmpireTurns game = plainCity();
        game.learn(0, 0);
        game.setParts(0, 100);
        game.queue(0, EmpireTurns.GRANARY);
        Games.endTurns(game, 18);
        Check.same("made", game.city(0, 6), 1 << EmpireTurns.GRANARY);
        Check.same("19 of 20", game.city(0, 3), 19);
        game.endTurn();
        Check.same("21 less 20 and 10", game.city(0, 3), 11);
        Check.same("size", game.city(0, 2), 3);
        Games.endTurns(game, 7);
        Check.same("25 less 25 and 12", game.city(0, 3), 12);
        Check.same("size", game.city(0, 2), 4);
    }

    @Sentence(promise = 21, under = "Turns", says = WORK)
    static void justEnoughWorkMakesIt() {
        // The store has 1 and then 2 more each turn, so that it has 11 and 13, and 15 just in the turn 8.
        EmpireTurns game = plainCity();
        game.queue(0, EmpireTurns.WORKER);
        Games.endTurns(game, 7);
        Check.same("13 of 15", game.unitsOn(27), 0);
        game.endTurn();
        Check.same("15 of 15", game.unitsOn(27), 1);
        Check.same("taken out", game.city(0, 4), 0);
    }

    @Sentence(promise = 21, under = "Turns", says = WORK)
    static void worksComeBehindGrowth() {
        // The store of work has 20 in the turn 7, and the size 2 comes in the turn 9: the SETTLER takes it at once.
        EmpireTurns game = new EmpireTurns();
        game.lay(27, EmpireTurns.HILL);
        Games.city(game, 0, 27);
        game.queue(0, EmpireTurns.SETTLER);
        Games.endTurns(game, 8);
        Check.same("23 of 20, but not the size", game.city(0, 4), 23);
        Check.same("not made", game.unitsOn(27), 0);
        game.endTurn();
        Check.same("made", game.unitsOn(27), 1);
        Check.same("16 of 15 food were there", game.city(0, 3), 1);
        Check.same("size", game.city(0, 2), 1);
    }

    @Sentence(promise = 21, under = "Turns", says = WORK)
    static void theRestOfTheWorkIsCarried() {
        EmpireTurns game = plainCity();
        game.queue(0, EmpireTurns.GUARD);
        Games.endTurns(game, 6);
        Check.same("11 of 12", game.unitsOn(27), 0);
        game.endTurn();
        Check.same("13 of 12", game.unitsOn(27), 1);
        Check.same("the rest", game.city(0, 4), 1);
    }

    @Sentence(promise = 21, under = "Turns", says = WORK)
    static void oneWorkIsMadeATurn() {
        EmpireTurns game = plainCity();
        Games.endTurns(game, 20);
        game.queue(0, EmpireTurns.GUARD);
        game.queue(0, EmpireTurns.WORKER);
        game.queue(0, EmpireTurns.TEMPLE);
        Check.holds("enough for all", game.city(0, 4) >= 12 + 15 + 14);
        game.endTurn();
        Check.same("one", game.unitsOn(27), 1);
        Check.same("the first of the queue", game.unit(1, 1), EmpireTurns.GUARD);
        Check.same("the next is the first then", game.city(0, 7), EmpireTurns.WORKER);
        game.endTurn();
        Check.same("one more", game.unit(2, 1), EmpireTurns.WORKER);
        Check.same("the last is the first then", game.city(0, 7), EmpireTurns.TEMPLE);
    }

    @Sentence(promise = 21, under = "Turns", says = TRADE)
    static void tradeIsPartedAndHalfOfItMore() {
        EmpireTurns game = Games.scholars(4, 5);
        Games.makeAtOnce(game, EmpireTurns.LIBRARY);
        Games.makeAtOnce(game, EmpireTurns.MARKET);
        Games.agree(game, 0, 1, EmpireTurns.PEACE, 20, 0);
        int[] parts = {0, 1, 33, 50, 67, 99, 100};
        for (int part : parts) {
            game.setParts(0, part);
            int[] learning = {game.city(0, 10) * part / 100, game.city(1, 10) * part / 100};
            int[] rest = {game.city(0, 10) - learning[0], game.city(1, 10) - learning[1]};
            int store = game.player(0, 1);
            int coins = game.ledger(0, 0);
            game.endTurn();
            Check.same("learning with the parts " + part, game.player(0, 1) - store,
                learning[0] + learning[0] / 2 + learning[1]);
            Check.same("coins with the parts " + part, game.ledger(0, 0) - coins, rest[0] + rest[0] / 2 + rest[1]);
        }
    }

    /** In this order of sentences a building is made before trade and culture come. */
    @Sentence(promise = 21, under = "Turns", says = TRADE)
    static void buildingsCountInTheTurnTheyAreMade() {
        EmpireTurns game = Games.scholars(4, 5);
        int[] buildings = {EmpireTurns.LIBRARY, EmpireTurns.MARKET, EmpireTurns.TEMPLE};
        int[] parts = {100, 0, 0};
        for (int i = 0; i < buildings.length; i++) {
            Games.endTurns(game, 30);
            game.setParts(0, parts[i]);
            game.queue(0, buildings[i]);
            int trade = game.city(0, 10);
            int got = game.player(0, 1) + game.ledger(0, 0);
            int other = game.city(1, 10);
            int culture = game.city(0, 5);
            game.endTurn();
            Check.same("made", game.city(0, 6) >> buildings[i] & 1, 1);
            int all = game.player(0, 1) + game.ledger(0, 0) - got;
            Check.same("half more, for learning and then for coins", all, trade + trade / 2 + other);
            Check.same("culture", game.city(0, 5) - culture, i == 2 ? 3 : 1);
        }
    }

    @Sentence(promise = 21, under = "Turns", says = "Its culture gets 1, and 2 with a TEMPLE.")
    static void cultureGrows() {
        EmpireTurns game = plainCity();
        for (int turn = 0; turn < 6; turn++) {
            Check.same("culture", game.city(0, 5), 5 + turn);
            game.endTurn();
        }
        Games.makeAtOnce(game, EmpireTurns.TEMPLE);
        int culture = game.city(0, 5);
        for (int turn = 1; turn <= 3; turn++) {
            game.endTurn();
            Check.same("with a TEMPLE 3", game.city(0, 5), culture + 3 * turn);
        }
    }

    @Sentence(promise = 21, under = "Turns", says = "(All plans are those of the beginning of the end.)")
    static void plansAreThoseOfTheBeginning() {
        // Two RIVERs: if the city 0, which grows first, planned anew then, it would take that of the city 1.
        EmpireTurns game = new EmpireTurns();
        Games.layAll(game, EmpireTurns.DESERT);
        game.lay(28, EmpireTurns.RIVER);
        game.lay(29, EmpireTurns.RIVER);
        Games.city(game, 0, 27);
        Games.city(game, 0, 30);
        game.order(0, 9, 1, 1);
        game.order(1, 9, 1, 1);
        Games.endTurns(game, 6);
        Check.same("the city 0", game.city(0, 2), 2);
        Check.same("the city 1", game.city(1, 2), 2);
        Check.same("now it has none", game.plan(1) >> 28 & 3, 0);
    }

    // ---- (2) players

    @Sentence(promise = 21, under = "Turns", says = "(2) For each player: the goal, if there is enough.")
    static void theGoalIsReachedBehindTheCities() {
        EmpireTurns game = plainCity();
        game.setParts(0, 100);
        game.learn(0, 0);
        Games.endTurns(game, 11);
        Check.same("11 of 12", game.player(0, 3), 0);
        game.endTurn();
        Check.same("with what the same turn brings", game.player(0, 3), 1);
    }

    @Sentence(promise = 21, under = "Turns", says = UPKEEP)
    static void buildingsCostOneEach() {
        EmpireTurns game = Games.scholars(0, 2);
        int[] buildings = {EmpireTurns.TEMPLE, EmpireTurns.GRANARY, EmpireTurns.WALLS};
        for (int i = 0; i < buildings.length; i++) {
            Games.makeAtOnce(game, buildings[i]);
            int paid = game.ledger(0, 4);
            game.endTurn();
            Check.same("so many buildings", game.ledger(0, 4) - paid, i + 1);
        }
    }

    @Sentence(promise = 21, under = "Turns", says = UPKEEP)
    static void twoUnitsForEachCityAreFree() {
        for (int cities = 1; cities <= 3; cities++) {
            for (int units = 0; units <= 7; units++) {
                EmpireTurns game = new EmpireTurns();
                for (int i = 0; i < cities; i++) {
                    Games.city(game, 0, 24 * i);
                }
                for (int i = 0; i < units; i++) {
                    game.place(0, EmpireTurns.WORKER, 10 + i);
                }
                game.setParts(0, 0);
                game.endTurn();
                // Each city brings 1 coin; what is more than that costs units, each of which is 1 less.
                int above = Math.max(0, units - 2 * cities);
                int paid = Math.min(above, cities);
                Check.same("paid of " + units, game.ledger(0, 4), paid);
                Check.same("coins", game.player(0, 0), cities - paid);
            }
        }
    }

    @Sentence(promise = 21, under = "Turns", says = UNITS_GO)
    static void theHighestUnitsGo() {
        EmpireTurns game = plainCity();
        int first = game.place(0, EmpireTurns.RAM, 27);
        game.place(1, EmpireTurns.GUARD, 63);
        for (int i = 0; i < 4; i++) {
            game.place(0, EmpireTurns.WORKER, 26);
        }
        game.setParts(0, 0);
        game.endTurn();
        // 3 are to be paid of 1 coin: the two highest are gone, and 1 is paid.
        for (int unit = first; unit <= first + 5; unit++) {
            boolean there = unit == first || unit == first + 2 || unit == first + 3;
            Check.same("unit " + unit, Games.isThere(game, unit) ? 1 : 0, there ? 1 : 0);
        }
        Check.same("coins", game.player(0, 0), 0);
        Check.same("paid", game.ledger(0, 4), 1);
        Check.same("nothing is forgiven", game.ledger(0, 3), 0);
    }

    @Sentence(promise = 21, under = "Turns", says = UNITS_GO)
    static void allUnitsMayGo() {
        EmpireTurns one = new EmpireTurns();
        one.place(2, EmpireTurns.GUARD, 27);
        one.endTurn();
        Check.nothingThere("the only one", one, () -> one.unit(0, 0));
        EmpireTurns forty = new EmpireTurns();
        for (int i = 0; i < 40; i++) {
            forty.place(2, EmpireTurns.GUARD, i);
        }
        forty.endTurn();
        for (int i = 0; i < 40; i++) {
            Check.same("units on " + i, forty.unitsOn(i), 0);
        }
        Check.same("nothing is paid or forgiven", forty.ledger(2, 3) + forty.ledger(2, 4), 0);
    }

    @Sentence(promise = 21, under = "Turns", says = UNITS_GO)
    static void freeUnitsGoForBuildings() {
        EmpireTurns game = plainCity();
        game.place(0, EmpireTurns.WORKER, 27);
        game.place(0, EmpireTurns.WORKER, 27);
        game.setParts(0, 100);
        game.queue(0, EmpireTurns.TEMPLE);
        Games.endTurns(game, 7);
        Check.same("both are free", game.unitsOn(27), 2);
        game.endTurn();
        Check.same("one is gone for the TEMPLE", game.unitsOn(27), 1);
        Check.same("which cost nothing, but is 1 less", game.ledger(0, 4) + game.ledger(0, 3), 0);
        Check.holds("the highest", Games.isThere(game, 1));
    }

    @Sentence(promise = 21, under = "Turns", says = UNITS_GO)
    static void aUnitMadeInTheTurnGoesFirst() {
        EmpireTurns game = plainCity();
        game.place(0, EmpireTurns.WORKER, 27);
        game.place(0, EmpireTurns.WORKER, 27);
        game.setParts(0, 100);
        game.queue(0, EmpireTurns.GUARD);
        Games.endTurns(game, 7);
        Check.same("the store has paid for it", game.city(0, 4), 1);
        Check.same("but it is gone", game.unitsOn(27), 2);
        Check.nothingThere("its number", game, () -> game.unit(3, 0));
    }

    @Sentence(promise = 21, under = "Turns", says = FORGIVEN)
    static void withoutUnitsTheRestIsForgiven() {
        EmpireTurns game = Games.scholars(0, 2);
        int[] buildings = {EmpireTurns.TEMPLE, EmpireTurns.GRANARY, EmpireTurns.WALLS};
        for (int building : buildings) {
            Games.makeAtOnce(game, building);
        }
        game.found(Games.LATE_SETTLER);
        Check.same("no units", game.unitsOn(0) + game.unitsOn(Games.LATE_TILE), 0);
        game.setParts(0, 100);
        // The coins shall be no threefold, so that once some are there, but too few.
        Games.agree(game, 0, 1, EmpireTurns.TRIBUTE, 1, 1 + (game.player(0, 0) + 1) % 3);
        game.endTurn();
        boolean some = false;
        for (int turn = 0; turn < 200 && game.ledger(0, 3) == 0; turn++) {
            int coins = game.player(0, 0);
            int paid = game.ledger(0, 4);
            game.endTurn();
            some |= coins > 0 && coins < 3;
            Check.same("given, with what is forgiven", game.ledger(0, 4) - paid, 3);
            Check.same("forgiven", game.ledger(0, 3), Math.max(0, 3 - coins));
            Check.same("coins", game.player(0, 0), Math.max(0, coins - 3));
        }
        Check.holds("some of 3 were there", some);
        game.endTurn();
        Check.same("all is forgiven", game.player(0, 0), 0);
    }

    // ---- (3) to (8)

    @Sentence(promise = 21, under = "Turns", says = "(3) Tributes, by rising treaties.")
    static void tributesComeByRisingTreaties() {
        int[][] due = {{0, 3, EmpireTurns.STANDS}, {3, 0, EmpireTurns.UNPAID}};
        for (int first = 0; first <= 1; first++) {
            EmpireTurns game = plainCity();
            game.setParts(0, 0);
            Games.endTurns(game, 5);
            for (int i = 0; i < 2; i++) {
                if (i == first) {
                    Games.agree(game, 0, 1, EmpireTurns.TRIBUTE, 9, 3);
                } else {
                    Games.agree(game, 1, 2, EmpireTurns.TRIBUTE, 9, 3);
                }
            }
            game.endTurn();
            // If the first one is from 0 to 1, this one can pay on.
            Check.same("coins of 1", game.player(1, 0), due[first][0]);
            Check.same("coins of 2", game.player(2, 0), due[first][1]);
            Check.same("from 1 to 2", game.treaty(1 - first, 4), due[first][2]);
            Check.same("from 0 to 1", game.treaty(first, 4), EmpireTurns.STANDS);
        }
    }

    @Sentence(promise = 21, under = "Turns", says = "(3) Tributes, by rising treaties.")
    static void tributesComeBehindUpkeep() {
        EmpireTurns game = plainCity();
        game.place(0, EmpireTurns.WORKER, 27);
        game.place(0, EmpireTurns.WORKER, 27);
        game.place(0, EmpireTurns.WORKER, 27);
        game.setParts(0, 0);
        Games.agree(game, 0, 1, EmpireTurns.TRIBUTE, 9, 1);
        game.endTurn();
        Check.same("the third unit is paid", game.unitsOn(27), 3);
        Check.same("and nothing is left", game.treaty(0, 4), EmpireTurns.UNPAID);
    }

    @Sentence(promise = 21, under = "Turns", says = "(4) Treaties lose a turn.")
    static void treatiesLoseATurnBehindTributes() {
        EmpireTurns game = plainCity();
        game.setParts(0, 0);
        Games.agree(game, 0, 1, EmpireTurns.TRIBUTE, 2, 1);
        for (int turn = 1; turn <= 3; turn++) {
            game.endTurn();
            Check.same("paid in the turn " + turn, game.ledger(0, 5), Math.min(2, turn));
            Check.same("turns left", game.treaty(0, 3), Math.max(0, 2 - turn));
        }
    }

    @Sentence(promise = 21, under = "Turns", says = "(5) Borders.")
    static void bordersComeBehindCulture() {
        // At the end of the third turn the cultures are 8 and 8: 32 by 16 twice, and 32 by 9 is less.
        EmpireTurns game = new EmpireTurns();
        Games.city(game, 0, 24);
        Games.city(game, 0, 30);
        Games.city(game, 1, 43);
        Games.endTurns(game, 2);
        Check.same("with 7", game.tile(27, 2), 1);
        game.endTurn();
        Check.same("with 8, which this turn has brought", game.tile(27, 2), 0);
    }

    @Sentence(promise = 21, under = "Turns",
        says = "(6) Workers: a job has a turn less, and is done behind the last one.")
    static void jobsAreDoneBehindTheirLastTurn() {
        EmpireTurns game = plainCity();
        int worker = game.place(0, EmpireTurns.WORKER, 27);
        game.work(worker, EmpireTurns.FARM);
        game.endTurn();
        Check.same("1 left", game.unit(worker, 5), 1);
        Check.same("not done", game.tile(27, 1), 0);
        int food = game.city(0, 3);
        game.endTurn();
        Check.same("none left", game.unit(worker, 5), 0);
        Check.same("done", game.tile(27, 1), EmpireTurns.FARM);
        Check.same("too late for the food of this turn", game.city(0, 3), food + 2);
        game.endTurn();
        Check.same("but not of the next one", game.city(0, 3), food + 2 + 3);
    }

    @Sentence(promise = 21, under = "Turns",
        says = "(6) Workers: a job has a turn less, and is done behind the last one.")
    static void twoWorkersMayMakeTheSame() {
        EmpireTurns game = plainCity();
        int[] workers = {game.place(0, EmpireTurns.WORKER, 27), game.place(0, EmpireTurns.WORKER, 27)};
        for (int worker : workers) {
            game.work(worker, EmpireTurns.ROAD);
        }
        Games.endTurns(game, 2);
        Check.same("one ROAD", game.tile(27, 1), EmpireTurns.ROAD);
        Check.same("both are done", game.unit(workers[0], 5) + game.unit(workers[1], 5), 0);
    }

    @Sentence(promise = 21, under = "Turns", says = "(7) Health, and all moves come back.")
    static void movesComeBack() {
        int[] moves = {2, 2, 2, 4, 2};
        EmpireTurns game = new EmpireTurns();
        Games.city(game, 0, 27);
        Games.city(game, 0, 63);
        Games.city(game, 0, 0);
        for (int kind = EmpireTurns.SETTLER; kind <= EmpireTurns.RAM; kind++) {
            int unit = game.place(0, kind, 35 + kind);
            game.step(unit, 0, 1);
            Check.holds("not all are left", game.unit(unit, 4) < moves[kind]);
        }
        game.endTurn();
        for (int kind = EmpireTurns.SETTLER; kind <= EmpireTurns.RAM; kind++) {
            Check.same("all moves of " + kind, game.unit(3 + kind, 4), moves[kind]);
        }
    }

    @Sentence(promise = 21, under = "Turns", says = "(7) Health, and all moves come back.")
    static void healthComesBehindBorders() {
        EmpireTurns game = new EmpireTurns();
        Games.city(game, 0, 24);
        game.place(0, EmpireTurns.GUARD, 31);
        Check.same("before the end of the turn the border is 7 away", game.tile(25, 2), EmpireTurns.NONE);
        game.endTurn();
        Check.same("behind it 4", game.tile(27, 2), 0);
        Check.same("health", game.unit(1, 3), 10);
    }

    @Sentence(promise = 21, under = "Turns", says = "(8) The turn is 1 more.")
    static void theTurnIsOneMore() {
        EmpireTurns game = new EmpireTurns();
        for (int turn = 1; turn <= 100; turn++) {
            Check.same("turn", game.endTurn(), turn);
        }
    }

    // ---- Promise 21: endTurn

    @Sentence(promise = 21, says = "Ends the turn. Returns the turn then.")
    static void endTurnReturnsTheTurnThen() {
        EmpireTurns game = new EmpireTurns();
        Check.same("behind 0", game.endTurn(), 1);
        Check.same("behind 1", game.endTurn(), 2);
    }

    // ---- Promise 27: player

    @Sentence(promise = 27, under = "Turns", says = SCORE)
    static void scoreOfCitiesAndTiles() {
        EmpireTurns game = new EmpireTurns();
        Check.same("nothing", game.player(0, 5), 0);
        Games.city(game, 0, 27);
        Check.same("a city of the size 1 and its tile", game.player(0, 5), 3 + 1);
        game.endTurn();
        Check.same("and 49 tiles", game.player(0, 5), 3 + 49);
        Games.endTurns(game, 8);
        Check.same("the size 2", game.player(0, 5), 6 + 49);
        Check.same("of another player", game.player(1, 5), 0);
    }

    @Sentence(promise = 27, under = "Turns", says = SCORE)
    static void scoreOfCrafts() {
        EmpireTurns game = plainCity();
        Games.learnBy(game, 0, 0, 20);
        Games.agree(game, 0, 1, EmpireTurns.CRAFT, 1, 0);
        Check.same("one craft and nothing else", game.player(1, 5), 5);
        Games.learnBy(game, 0, 1, 20);
        Games.agree(game, 0, 1, EmpireTurns.CRAFT, 1, 1);
        Check.same("two crafts", game.player(1, 5), 10);
    }

    @Sentence(promise = 27, under = "Turns", says = SCORE)
    static void scoreOfCoins() {
        EmpireTurns game = plainCity();
        game.setParts(0, 0);
        Games.endTurns(game, 19);
        Check.same("19 coins and the size 3", game.player(0, 5), 9 + 49);
        game.endTurn();
        Check.same("20 coins", game.player(0, 0), 20);
        Check.same("and the score", game.player(0, 5), 9 + 49 + 1);
        Games.endTurns(game, 10);
        int sizes = 3 * game.city(0, 2);
        Check.same("30 coins", game.player(0, 5), sizes + 49 + 1);
    }

    @Sentence(promise = 27, under = "Turns", says = SCORE)
    static void scoreOfBreaches() {
        EmpireTurns game = plainCity();
        for (int i = 1; i <= 3; i++) {
            Games.agree(game, 0, 1, EmpireTurns.PEACE, 9, 0);
            game.cancel(0, i - 1);
            Check.same("it may be below 0", game.player(0, 5), 4 - 10 * i);
        }
        Check.same("not of the other one", game.player(1, 5), 0);
    }

    @Sentence(promise = 27, says = "Tells of a player.")
    static void playerTellsSevenThings() {
        EmpireTurns game = plainCity();
        Check.range(game, 0, 6, v -> game.player(0, v));
    }

    @Sentence(promise = 27, says = "player: 0 to 3")
    static void playerPlayers() {
        EmpireTurns game = plainCity();
        Check.range(game, 0, 3, v -> game.player(v, 6));
    }

    @Sentence(promise = 27, says = "what: 0 the coins, 1 the store of learning, 2 the goal, or NONE, 3 the crafts known "
        + "(bit c for the craft c), 4 the breaches, 5 the score, 6 the cities")
    static void playerTellsWhatItHas() {
        EmpireTurns game = plainCity();
        Games.city(game, 0, 63);
        Games.learnBy(game, 0, 3, 40);
        game.learn(0, 9);
        game.setParts(0, 50);
        Games.agree(game, 0, 1, EmpireTurns.PEACE, 9, 0);
        game.cancel(0, 0);
        game.endTurn();
        game.setParts(0, 100);
        game.endTurn();
        int held = 0;
        for (int tile = 0; tile < 64; tile++) {
            held += game.tile(tile, 2) == 0 ? 1 : 0;
        }
        int sizes = game.city(0, 2) + game.city(1, 2);
        int[] due = {2, 2, 9, 1 << 3, 1, 3 * sizes + 5 + held - 10, 2};
        for (int what = 0; what < due.length; what++) {
            Check.same("tells " + what, game.player(0, what), due[what]);
        }
    }

    @Sentence(promise = 27, says = OUT_OF_RANGE)
    static void playerOutOfRange() {
        EmpireTurns game = plainCity();
        Check.onlyFrom(game, 0, 3, v -> game.player(v, 0));
        Check.onlyFrom(game, 0, 6, v -> game.player(0, v));
        Check.badArgument("both", game, () -> game.player(4, 7));
    }

    // ---- Promise 28: ledger

    @Sentence(promise = 28, says = "Tells how many coins a player has got or given since the beginning.")
    static void ledgersMakeTheCoins() {
        EmpireTurns game = plainCity();
        Games.city(game, 1, 63);
        game.setParts(0, 0);
        game.queue(0, EmpireTurns.TEMPLE);
        Games.endTurns(game, 6);
        game.hurry(0);
        Games.agree(game, 0, 1, EmpireTurns.TRIBUTE, 9, 2);
        Games.endTurns(game, 12);
        for (int player = 0; player <= 1; player++) {
            int coins = 0;
            for (int what = 0; what < 8; what++) {
                coins += what < 4 ? game.ledger(player, what) : -game.ledger(player, what);
            }
            Check.same("got less given", game.player(player, 0), coins);
        }
    }

    @Sentence(promise = 28, says = "player: 0 to 3")
    static void ledgerPlayers() {
        EmpireTurns game = plainCity();
        Check.range(game, 0, 3, v -> game.ledger(v, 0));
    }

    @Sentence(promise = 28, says = "what: got: 0 from trade, 1 by tributes, 2 by cities taken, 3 forgiven upkeep;")
    static void ledgerOfWhatIsGot() {
        EmpireTurns game = Games.readyToTake();
        Check.same("from trade, of two cities", game.ledger(1, 0), 18);
        Check.same("from trade, of one", game.ledger(0, 0), 9);
        Games.agree(game, 1, 0, EmpireTurns.TRIBUTE, 1, 5);
        game.endTurn();
        Check.same("by tributes", game.ledger(0, 1), 5);
        int coins = game.player(1, 0);
        game.step(Games.TAKER, 1, 0);
        Check.same("by cities taken", game.ledger(0, 2), coins / 4);
        for (int what = 1; what <= 3; what++) {
            Check.same("nothing of the other one", game.ledger(1, what), 0);
        }
        EmpireTurns poor = plainCity();
        poor.queue(0, EmpireTurns.TEMPLE);
        poor.setParts(0, 100);
        Games.endTurns(poor, 10);
        Check.same("forgiven upkeep, of three turns", poor.ledger(0, 3), 3);
        Check.same("nothing from trade", poor.ledger(0, 0), 0);
    }

    @Sentence(promise = 28, says = "given: 4 upkeep, that which was forgiven with it, 5 for tributes, 6 by cities lost, "
        + "7 for hurrying")
    static void ledgerOfWhatIsGiven() {
        EmpireTurns game = Games.readyToTake();
        game.queue(0, EmpireTurns.SETTLER);
        Check.same("for hurrying, 3 that lacked", game.hurry(0), 6);
        Check.same("for hurrying", game.ledger(1, 7), 6);
        game.unqueue(0, 0);
        Games.agree(game, 1, 0, EmpireTurns.TRIBUTE, 1, 5);
        game.endTurn();
        Check.same("for tributes", game.ledger(1, 5), 5);
        int coins = game.player(1, 0);
        game.step(Games.TAKER, 1, 0);
        Check.same("by cities lost", game.ledger(1, 6), coins / 4);
        for (int what = 4; what <= 7; what++) {
            Check.same("nothing of the other one", game.ledger(0, what), 0);
        }
        EmpireTurns poor = plainCity();
        poor.queue(0, EmpireTurns.TEMPLE);
        poor.setParts(0, 100);
        Games.endTurns(poor, 10);
        Check.same("upkeep, though it was forgiven", poor.ledger(0, 4), 3);
        poor.setParts(0, 0);
        poor.endTurn();
        Check.same("upkeep that is paid", poor.ledger(0, 4), 4);
        Check.same("which is not forgiven", poor.ledger(0, 3), 3);
    }

    @Sentence(promise = 28, says = OUT_OF_RANGE)
    static void ledgerOutOfRange() {
        EmpireTurns game = plainCity();
        Check.onlyFrom(game, 0, 3, v -> game.ledger(v, 0));
        Check.range(game, 0, 7, v -> game.ledger(0, v));
        Check.badArgument("both", game, () -> game.ledger(-1, 8));
    }
}
