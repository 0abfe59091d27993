/** Edges of cities, without their plans and works: the promises 5 to 9 and 24. */
final class CityEdges {
    private static final String NO_CITY = "Throws IndexOutOfBoundsException if there is no such city";
    private static final String NO_WEIGHT = "Throws IllegalArgumentException if a weight is out of range";
    private static final int FAR = Integer.MAX_VALUE;

    private CityEdges() {
    }

    // ---- Cities

    @Sentence(promise = 5, under = "Cities", says = "Cities are numbered from 0 as they are founded;")
    static void citiesAreNumberedFromZero() {
        EmpireTurns game = new EmpireTurns();
        int late = game.place(0, EmpireTurns.SETTLER, 0);
        int early = game.place(1, EmpireTurns.SETTLER, 63);
        Check.same("the first that is founded", game.found(early), 0);
        Check.same("the second", game.found(late), 1);
        Check.same("tile of the first", game.city(0, 1), 63);
    }

    @Sentence(promise = 5, under = "Cities", says = "at most 12 are.")
    static void atMostTwelveAreFounded() {
        EmpireTurns game = Games.twelveFounded();
        Check.same("cities that are there", game.player(0, 6), 8);
        int settler = game.place(0, EmpireTurns.SETTLER, 0);
        Check.badState("a thirteenth", game, () -> game.found(settler));
    }

    @Sentence(promise = 24, under = "Cities", says = "A city has an owner, a tile, a size, 1 at first, stores of food "
        + "and work, 0 at first, culture, 5 at first, buildings, a queue of works,")
    static void whatCitiesHaveAtFirst() {
        EmpireTurns game = new EmpireTurns();
        Games.city(game, 2, 27);
        int[] due = {2, 27, 1, 0, 0, 5, 0, EmpireTurns.NONE};
        for (int what = 0; what < due.length; what++) {
            Check.same("tells " + what, game.city(0, what), due[what]);
        }
    }

    @Sentence(promise = 6, under = "Cities",
        says = "and an order: three weights for food, work and trade, 1 each at first.")
    static void weightsAreAlikeAtFirst() {
        // HILL and PLAIN are 3 each, SEA and RIVER 4 each: alike, the lower tile is the plan.
        pairIsAlike(EmpireTurns.DESERT, EmpireTurns.HILL, EmpireTurns.PLAIN);
        pairIsAlike(EmpireTurns.DESERT, EmpireTurns.SEA, EmpireTurns.RIVER);
        pairIsAlike(EmpireTurns.DESERT, EmpireTurns.SEA, EmpireTurns.FOREST);
    }

    private static void pairIsAlike(int others, int one, int other) {
        int[][] both = {{one, other}, {other, one}};
        for (int[] pair : both) {
            EmpireTurns game = new EmpireTurns();
            Games.layAll(game, others);
            game.lay(18, pair[0]);
            game.lay(36, pair[1]);
            Games.city(game, 0, 27);
            game.endTurn();
            Check.same("the lower one of " + pair[0] + " and " + pair[1], game.plan(0), 1L << 18);
        }
    }

    @Sentence(promise = 24, under = "Cities", says = "One that is destroyed is no city any more;")
    static void destroyedCitiesAreNone() {
        EmpireTurns game = destroyed();
        Check.noneFrom(game, 1, v -> game.city(v, 0));
        Check.nothingThere("order", game, () -> game.order(0, 1, 1, 1));
        Check.nothingThere("queue", game, () -> game.queue(0, EmpireTurns.GUARD));
        Check.nothingThere("unqueue", game, () -> game.unqueue(0, 0));
        Check.nothingThere("hurry", game, () -> game.hurry(0));
        Check.nothingThere("plan", game, () -> game.plan(0));
        Check.nothingThere("planByAll", game, () -> game.planByAll(0));
        Check.same("on its tile", game.tile(27, 3), EmpireTurns.NONE);
        Check.same("of its owner", game.player(0, 6), 0);
        Check.same("its pull", game.pull(0, 28), 0);
        Check.same("the score of its owner, who has the tile still", game.player(0, 5), 1);
    }

    @Sentence(promise = 5, under = "Cities", says = "its number is not used again.")
    static void numbersAreNotUsedAgain() {
        EmpireTurns game = destroyed();
        Check.same("the next one", Games.city(game, 0, 60), 1);
        Check.nothingThere("still no city", game, () -> game.city(0, 0));
    }

    private static EmpireTurns destroyed() {
        EmpireTurns game = new EmpireTurns();
        Games.city(game, 0, 27);
        game.queue(0, EmpireTurns.GUARD);
        game.step(game.place(1, EmpireTurns.RIDER, 28), -1, 0);
        return game;
    }

    @Sentence(promise = 24, under = "Cities",
        says = "The city gets what its tiles give, and of its own tile at least 2 food, 1 work and 1 trade.")
    static void ownTileGivesAtLeast() {
        int[][] due = {{2, 1, 1}, {2, 2, 1}, {2, 2, 1}, {2, 1, 1}, {3, 1, 1}};
        for (int land = EmpireTurns.PLAIN; land <= EmpireTurns.RIVER; land++) {
            EmpireTurns game = new EmpireTurns();
            game.lay(27, land);
            Games.city(game, 0, 27);
            for (int i = 0; i < 3; i++) {
                Check.same("own tile of the land " + land + ", " + (8 + i), game.city(0, 8 + i), due[land - 1][i]);
            }
        }
    }

    @Sentence(promise = 24, under = "Cities",
        says = "The city gets what its tiles give, and of its own tile at least 2 food, 1 work and 1 trade.")
    static void ownTileGivesWhatWasMadeThere() {
        ownTileWith(EmpireTurns.PLAIN, EmpireTurns.FARM, 3, 1);
        ownTileWith(EmpireTurns.DESERT, EmpireTurns.FARM, 2, 1);
        ownTileWith(EmpireTurns.DESERT, EmpireTurns.MINE, 2, 2);
        ownTileWith(EmpireTurns.HILL, EmpireTurns.MINE, 2, 3);
    }

    private static void ownTileWith(int land, int made, int food, int work) {
        EmpireTurns game = new EmpireTurns();
        Games.layAll(game, EmpireTurns.DESERT);
        game.lay(27, land);
        Games.city(game, 0, 27);
        int worker = game.place(0, EmpireTurns.WORKER, 27);
        game.work(worker, made);
        Games.endTurns(game, 2);
        // The DESERT that it works gives 0, 1 and 1.
        Check.same("food with " + made + " on " + land, game.city(0, 8), food);
        Check.same("work with " + made + " on " + land, game.city(0, 9), work + 1);
    }

    // ---- Promise 5: found

    @Sentence(promise = 5, says = "Founds a city with a SETTLER, which is gone then.")
    static void settlersAreGoneThen() {
        EmpireTurns game = new EmpireTurns();
        int settler = game.place(1, EmpireTurns.SETTLER, 27);
        int other = game.place(1, EmpireTurns.SETTLER, 27);
        game.found(settler);
        Check.holds("gone", !Games.isThere(game, settler));
        Check.holds("the other one is there", Games.isThere(game, other));
        Check.same("on the tile", game.unitsOn(27), 1);
        Check.same("the city", game.tile(27, 3), 0);
        Check.same("its owner", game.city(0, 0), 1);
    }

    @Sentence(promise = 5, says = "Returns the number of the city.")
    static void foundReturnsTheNumber() {
        EmpireTurns game = new EmpireTurns();
        for (int i = 0; i < 3; i++) {
            int city = Games.city(game, i, 3 * i);
            Check.same("number", city, i);
            Check.same("its tile", game.city(city, 1), 3 * i);
        }
    }

    @Sentence(promise = 5, says = "Throws IndexOutOfBoundsException if there is no such unit")
    static void foundWithoutUnit() {
        EmpireTurns game = new EmpireTurns();
        Games.city(game, 0, 27);
        Check.nothingThere("the one that is gone", game, () -> game.found(0));
        Check.noneFrom(game, 1, v -> game.found(v));
    }

    @Sentence(promise = 5, says = "Throws IllegalStateException if it is no SETTLER,")
    static void foundWithOthers() {
        EmpireTurns game = new EmpireTurns();
        for (int kind = EmpireTurns.WORKER; kind <= EmpireTurns.RAM; kind++) {
            int unit = game.place(0, kind, kind);
            Check.badState("kind " + kind, game, () -> game.found(unit));
        }
    }

    @Sentence(promise = 5, says = "or has no moves left,")
    static void foundWithoutMoves() {
        EmpireTurns game = new EmpireTurns();
        int settler = game.place(0, EmpireTurns.SETTLER, 27);
        int other = game.place(0, EmpireTurns.SETTLER, 0);
        Games.city(game, 0, 63);
        game.step(settler, 1, 0);
        game.step(settler, 0, 1);
        Check.badState("0 left", game, () -> game.found(settler));
        game.step(other, 1, 0);
        Check.same("1 left", game.found(other), 1);
        game.endTurn();
        Check.same("in the next turn", game.found(settler), 2);
    }

    @Sentence(promise = 5, says = "a city is at a distance of less than 3,")
    static void foundNearACity() {
        int[] near = {27, 28, 18, 29, 45, 25, 9, 11, 42};
        int[] far = {30, 54, 24, 3, 0, 6, 51, 48, 31};
        for (int i = 0; i < near.length; i++) {
            EmpireTurns game = new EmpireTurns();
            Games.city(game, 0, 27);
            int close = game.place(0, EmpireTurns.SETTLER, near[i]);
            int away = game.place(1, EmpireTurns.SETTLER, far[i]);
            Check.badState("on " + near[i], game, () -> game.found(close));
            Check.same("on " + far[i], game.found(away), 1);
        }
    }

    @Sentence(promise = 5, says = "the tile is within the borders of another player,")
    static void foundWithinBorders() {
        EmpireTurns game = new EmpireTurns();
        Games.city(game, 0, 27);
        Games.city(game, 1, 63);
        int own = game.place(0, EmpireTurns.SETTLER, 30);
        int others = game.place(1, EmpireTurns.SETTLER, 24);
        int nobodys = game.place(1, EmpireTurns.SETTLER, 7);
        game.endTurn();
        Check.same("whose 24 is", game.tile(24, 2), 0);
        Check.badState("at war", game, () -> game.found(others));
        Games.agree(game, 0, 1, EmpireTurns.PEACE, 9, 0);
        Games.agree(game, 0, 1, EmpireTurns.PASSAGE, 9, 0);
        Check.badState("with a PASSAGE", game, () -> game.found(others));
        Check.same("whose 30 is", game.tile(30, 2), 0);
        Check.same("within own borders", game.found(own), 2);
        Check.same("whose 7 is", game.tile(7, 2), EmpireTurns.NONE);
        Check.same("within nobody's", game.found(nobodys), 3);
    }

    @Sentence(promise = 5, says = "or 12 were founded")
    static void foundAThirteenth() {
        EmpireTurns game = Games.twelveFounded();
        int settler = game.place(3, EmpireTurns.SETTLER, 0);
        Check.badState("a thirteenth", game, () -> game.found(settler));
    }

    // ---- Promise 6: order

    @Sentence(promise = 6, says = "Sets the order of a city.")
    static void orderSetsThePlan() {
        EmpireTurns game = new EmpireTurns();
        Games.layAll(game, EmpireTurns.DESERT);
        game.lay(18, EmpireTurns.HILL);
        game.lay(19, EmpireTurns.SEA);
        game.lay(20, EmpireTurns.RIVER);
        Games.city(game, 0, 27);
        game.endTurn();
        game.order(0, 9, 1, 1);
        Check.same("food", game.plan(0), 1L << 20);
        game.order(0, 1, 9, 1);
        Check.same("work", game.plan(0), 1L << 18);
        game.order(0, 1, 1, 9);
        Check.same("trade", game.plan(0), 1L << 19);
    }

    @Sentence(promise = 6, says = "food: 1 to 9: the weights")
    static void orderFood() {
        EmpireTurns game = oneCity();
        Check.range(game, 1, 9, v -> game.order(0, v, 1, 1));
    }

    @Sentence(promise = 6, says = "work: 1 to 9")
    static void orderWork() {
        EmpireTurns game = oneCity();
        Check.range(game, 1, 9, v -> game.order(0, 9, v, 9));
    }

    @Sentence(promise = 6, says = "trade: 1 to 9")
    static void orderTrade() {
        EmpireTurns game = oneCity();
        Check.range(game, 1, 9, v -> game.order(0, 5, 5, v));
    }

    @Sentence(promise = 6, says = NO_CITY)
    static void orderWithoutCity() {
        EmpireTurns game = oneCity();
        Check.noneFrom(game, 1, v -> game.order(v, 1, 1, 1));
    }

    @Sentence(promise = 6, says = NO_WEIGHT)
    static void orderOutOfRange() {
        EmpireTurns game = oneCity();
        game.lay(18, EmpireTurns.FOREST);
        Check.badArgument("all", game, () -> game.order(0, 0, 0, 0));
        Check.badArgument("the last alone", game, () -> game.order(0, 9, 9, 10));
        Check.badArgument("the first alone", game, () -> game.order(0, -FAR, 9, 9));
        game.endTurn();
        Check.same("no weight is another one", game.plan(0), 1L << 18);
    }

    private static EmpireTurns oneCity() {
        EmpireTurns game = new EmpireTurns();
        Games.city(game, 0, 27);
        return game;
    }

    // ---- Promise 7: queue

    @Sentence(promise = 7, says = "Puts a work behind the queue of a city.")
    static void queuePutsBehind() {
        EmpireTurns game = oneCity();
        Games.city(game, 0, 63);
        game.queue(0, EmpireTurns.MARKET);
        game.queue(0, EmpireTurns.SETTLER);
        Check.same("the first", game.city(0, 7), EmpireTurns.MARKET);
        Check.same("of the other city", game.city(1, 7), EmpireTurns.NONE);
        Check.same("the second", game.unqueue(0, 1), EmpireTurns.SETTLER);
    }

    @Sentence(promise = 7, says = "work: SETTLER to MARKET")
    static void queueWorks() {
        EmpireTurns game = oneCity();
        Check.range(game, EmpireTurns.SETTLER, EmpireTurns.MARKET, v -> game.queue(0, v));
    }

    @Sentence(promise = 7, says = "Returns how many it has then.")
    static void queueReturnsHowMany() {
        EmpireTurns game = oneCity();
        for (int i = 1; i <= 6; i++) {
            Check.same("so many", game.queue(0, EmpireTurns.TEMPLE), i);
        }
    }

    @Sentence(promise = 7, says = NO_CITY)
    static void queueWithoutCity() {
        EmpireTurns game = oneCity();
        Check.noneFrom(game, 1, v -> game.queue(v, EmpireTurns.GUARD));
    }

    @Sentence(promise = 7, says = "Throws IllegalArgumentException if work is out of range")
    static void queueOutOfRange() {
        EmpireTurns game = oneCity();
        Check.badArgument("10", game, () -> game.queue(0, 10));
        Check.badArgument("-1", game, () -> game.queue(0, EmpireTurns.NONE));
        Check.same("the first that comes", game.queue(0, EmpireTurns.GUARD), 1);
    }

    @Sentence(promise = 7, says = "Throws IllegalStateException if it has 6")
    static void queueAtMostSix() {
        EmpireTurns game = oneCity();
        for (int i = 0; i < 6; i++) {
            game.queue(0, EmpireTurns.GUARD + i % 2);
        }
        Check.badState("a seventh", game, () -> game.queue(0, EmpireTurns.GUARD));
        game.unqueue(0, 5);
        Check.same("when one is out", game.queue(0, EmpireTurns.RAM), 6);
        Check.same("the last", game.unqueue(0, 5), EmpireTurns.RAM);
    }

    // ---- Promise 8: unqueue

    @Sentence(promise = 8, says = "Takes a work out of the queue of a city.")
    static void unqueueTakesOut() {
        EmpireTurns game = oneCity();
        for (int i = 0; i < 6; i++) {
            game.queue(0, 9 - i);
        }
        Check.same("from the middle", game.unqueue(0, 2), 7);
        int[] rest = {9, 8, 6, 5, 4};
        for (int work : rest) {
            Check.same("the rest in its order", game.unqueue(0, 0), work);
        }
        Check.same("then it is empty", game.city(0, 7), EmpireTurns.NONE);
    }

    @Sentence(promise = 8, says = "place: 0 for the first one")
    static void unqueuePlaces() {
        EmpireTurns game = oneCity();
        game.queue(0, EmpireTurns.RAM);
        game.queue(0, EmpireTurns.WALLS);
        Check.same("the first", game.city(0, 7), EmpireTurns.RAM);
        Check.same("the place 1", game.unqueue(0, 1), EmpireTurns.WALLS);
        Check.same("the place 0", game.unqueue(0, 0), EmpireTurns.RAM);
    }

    @Sentence(promise = 8, says = "Returns the work.")
    static void unqueueReturnsTheWork() {
        EmpireTurns game = oneCity();
        for (int work = EmpireTurns.SETTLER; work <= EmpireTurns.MARKET; work++) {
            game.queue(0, work);
            Check.same("the work", game.unqueue(0, 0), work);
        }
    }

    @Sentence(promise = 8, says = NO_CITY)
    static void unqueueWithoutCity() {
        EmpireTurns game = oneCity();
        game.queue(0, EmpireTurns.GUARD);
        Check.noneFrom(game, 1, v -> game.unqueue(v, 0));
    }

    @Sentence(promise = 8, says = "Throws IllegalArgumentException if there is no such place")
    static void unqueueNoSuchPlace() {
        EmpireTurns game = oneCity();
        Check.badArgument("an empty queue", game, () -> game.unqueue(0, 0));
        for (int has = 1; has <= 6; has++) {
            game.queue(0, EmpireTurns.GUARD);
            Check.onlyFrom(game, 0, has - 1, v -> game.unqueue(0, v));
        }
        for (int has = 5; has >= 0; has--) {
            game.unqueue(0, has);
            Check.onlyFrom(game, 0, has - 1, v -> game.unqueue(0, v));
        }
    }

    // ---- Promise 9: hurry

    /** With n turns ended the store of work is n, and the coins are 3 n less 2, to the turn 9. */
    private static EmpireTurns traders(int turns) {
        EmpireTurns game = new EmpireTurns();
        Games.layAll(game, EmpireTurns.SEA);
        game.lay(27, EmpireTurns.PLAIN);
        Games.city(game, 0, 27);
        game.setParts(0, 0);
        Games.endTurns(game, turns);
        return game;
    }

    @Sentence(promise = 9, says = "Buys what the first work of a city lacks: 2 coins for each; "
        + "it comes into the store of work.")
    static void hurryBuysWhatLacks() {
        EmpireTurns game = traders(8);
        game.queue(0, EmpireTurns.GUARD);
        game.queue(0, EmpireTurns.RAM);
        game.hurry(0);
        Check.same("22 coins less 2 times 4", game.player(0, 0), 14);
        Check.same("the store has the cost", game.city(0, 4), 12);
        Check.same("not made yet", game.unitsOn(27), 0);
        game.endTurn();
        Check.same("made", game.unitsOn(27), 1);
        Check.same("the work of the turn is left", game.city(0, 4), 1);
    }

    @Sentence(promise = 9, says = "Returns how many coins that takes.")
    static void hurryReturnsTheCoins() {
        EmpireTurns game = traders(8);
        game.queue(0, EmpireTurns.TEMPLE);
        Check.same("2 times 6", game.hurry(0), 12);
        game.unqueue(0, 0);
        game.queue(0, EmpireTurns.WORKER);
        Check.same("2 times 1, though it could not be bought at once", game.hurry(0), 2);
    }

    @Sentence(promise = 9, says = NO_CITY)
    static void hurryWithoutCity() {
        EmpireTurns game = traders(8);
        game.queue(0, EmpireTurns.GUARD);
        Check.noneFrom(game, 1, v -> game.hurry(v));
    }

    @Sentence(promise = 9, says = "Throws IllegalStateException if its queue is empty,")
    static void hurryWithAnEmptyQueue() {
        EmpireTurns game = traders(8);
        Check.badState("at first", game, () -> game.hurry(0));
        game.queue(0, EmpireTurns.GUARD);
        game.unqueue(0, 0);
        Check.badState("again", game, () -> game.hurry(0));
    }

    @Sentence(promise = 9, says = "nothing is lacking,")
    static void hurryWhenNothingLacks() {
        EmpireTurns less = traders(11);
        less.queue(0, EmpireTurns.GUARD);
        Check.same("11 of 12", less.hurry(0), 2);
        Check.badState("bought already", less, () -> less.hurry(0));
        EmpireTurns just = traders(12);
        just.queue(0, EmpireTurns.GUARD);
        Check.badState("12 of 12", just, () -> just.hurry(0));
        EmpireTurns more = traders(13);
        more.queue(0, EmpireTurns.GUARD);
        Check.badState("13 of 12", more, () -> more.hurry(0));
    }

    @Sentence(promise = 9, says = "or the owner has not so many")
    static void hurryWithTooFewCoins() {
        EmpireTurns few = traders(5);
        few.queue(0, EmpireTurns.GUARD);
        Check.same("coins", few.player(0, 0), 13);
        Check.badState("14 would be needed", few, () -> few.hurry(0));
        EmpireTurns just = traders(6);
        just.queue(0, EmpireTurns.TEMPLE);
        Check.same("coins", just.player(0, 0), 16);
        Check.same("16 are needed", just.hurry(0), 16);
        Check.same("none is left", just.player(0, 0), 0);
    }

    // ---- Promise 24: city

    @Sentence(promise = 24, says = "Tells of a city.")
    static void cityTellsElevenThings() {
        EmpireTurns game = oneCity();
        Check.range(game, 0, 10, v -> game.city(0, v));
    }

    @Sentence(promise = 24, says = "what: 0 its owner, 1 its tile, 2 its size, 3 the store of food, 4 the store of work, "
        + "5 its culture, 6 its buildings (bit w for the work w),")
    static void cityTellsWhatItHas() {
        EmpireTurns game = new EmpireTurns();
        Games.city(game, 3, 27);
        game.queue(0, EmpireTurns.TEMPLE);
        Games.endTurns(game, 8);
        // Food grows by 2 from the second turn on; work is 1 and then 2, and the TEMPLE costs 14.
        int[] due = {3, 27, 1, 14, 1, 5 + 7 + 3, 1 << EmpireTurns.TEMPLE};
        for (int what = 0; what < due.length; what++) {
            Check.same("tells " + what, game.city(0, what), due[what]);
        }
        game.endTurn();
        Check.same("its size", game.city(0, 2), 2);
    }

    @Sentence(promise = 24, says = "7 the first work of its queue, or NONE;")
    static void cityTellsTheFirstWork() {
        EmpireTurns game = oneCity();
        Check.same("none", game.city(0, 7), EmpireTurns.NONE);
        game.queue(0, EmpireTurns.SETTLER);
        game.queue(0, EmpireTurns.GUARD);
        Check.same("SETTLER, which is 0", game.city(0, 7), EmpireTurns.SETTLER);
        game.unqueue(0, 0);
        Check.same("the next one", game.city(0, 7), EmpireTurns.GUARD);
        game.unqueue(0, 0);
        Check.same("none", game.city(0, 7), EmpireTurns.NONE);
    }

    @Sentence(promise = 24, says = "8, 9, 10 the food, work and trade that it would get now")
    static void cityTellsWhatItWouldGetNow() {
        EmpireTurns game = new EmpireTurns();
        Games.layAll(game, EmpireTurns.HILL);
        game.lay(18, EmpireTurns.SEA);
        Games.city(game, 0, 27);
        Check.same("food without borders", game.city(0, 8), 2);
        game.endTurn();
        int[][] due = {{4, 2, 3}, {3, 4, 1}};
        int[][] orders = {{1, 1, 9}, {1, 9, 1}};
        for (int i = 0; i < 2; i++) {
            game.order(0, orders[i][0], orders[i][1], orders[i][2]);
            for (int what = 8; what <= 10; what++) {
                Check.same("tells " + what + " by the order " + i, game.city(0, what), due[i][what - 8]);
            }
        }
    }

    @Sentence(promise = 24, says = NO_CITY)
    static void cityWithoutCity() {
        EmpireTurns game = oneCity();
        Check.noneFrom(game, 1, v -> game.city(v, 2));
        Check.noneFrom(game, 1, v -> game.city(v, 8));
    }

    @Sentence(promise = 24, says = "Throws IllegalArgumentException if what is out of range")
    static void cityOutOfRange() {
        EmpireTurns game = oneCity();
        Check.onlyFrom(game, 0, 10, v -> game.city(0, v));
    }
}
