/** Edges of the works: what is told of them under "Works". */
final class WorkEdges {
    private static final String UNITS = "Units: SETTLER, moves 2, attack 0, defence 1, cost 20; WORKER 2, 0, 1, 15; "
        + "GUARD 2, 2, 4, 12; RIDER 4, 4, 2, 18, with the craft 1; RAM 2, 6, 1, 24, with the craft 3.";
    private static final int[] MOVES = {2, 2, 2, 4, 2};
    private static final int[] ATTACK = {0, 0, 2, 4, 6};
    private static final int[] DEFENCE = {1, 1, 4, 2, 1};
    private static final int[] COST = {20, 15, 12, 18, 24, 14, 16, 20, 24, 24};
    private static final String STAYS = "it stays there, and so does what is in the store.";

    private WorkEdges() {
    }

    @Sentence(promise = 19, under = "Works", says = UNITS)
    static void movesOfUnits() {
        EmpireTurns game = new EmpireTurns();
        for (int kind = EmpireTurns.SETTLER; kind <= EmpireTurns.RAM; kind++) {
            Check.same("moves of " + kind, game.unit(game.place(0, kind, kind), 4), MOVES[kind]);
        }
    }

    @Sentence(promise = 17, under = "Works", says = UNITS)
    static void attacksAndDefencesOfUnits() {
        for (int first = EmpireTurns.GUARD; first <= EmpireTurns.RAM; first++) {
            for (int other = EmpireTurns.SETTLER; other <= EmpireTurns.RAM; other++) {
                EmpireTurns game = new EmpireTurns();
                game.place(0, first, 27);
                game.place(1, other, 28);
                game.step(0, 1, 0);
                int both = ATTACK[first] + DEFENCE[other];
                Check.same(first + " of " + other, game.unit(0, 3), 10 - 1 - 9 * DEFENCE[other] / both);
                Check.same(other + " of " + first, game.unit(1, 3), 10 - 1 - 9 * ATTACK[first] / both);
            }
        }
    }

    @Sentence(promise = 17, under = "Works", says = UNITS)
    static void settlersAndWorkersHaveNoAttack() {
        for (int kind = EmpireTurns.SETTLER; kind <= EmpireTurns.WORKER; kind++) {
            EmpireTurns game = new EmpireTurns();
            game.place(0, kind, 27);
            game.place(1, EmpireTurns.WORKER, 28);
            Check.badState("kind " + kind, game, () -> game.step(0, 1, 0));
        }
    }

    @Sentence(promise = 7, under = "Works", says = UNITS)
    static void costsOfUnits() {
        for (int kind = EmpireTurns.SETTLER; kind <= EmpireTurns.RAM; kind++) {
            costs(kind);
        }
    }

    @Sentence(promise = 7, under = "Works", says = "Buildings: TEMPLE, cost 14: 2 more culture each turn;")
    static void costOfTemples() {
        costs(EmpireTurns.TEMPLE);
    }

    @Sentence(promise = 7, under = "Works", says = "GRANARY 16, with the craft 0: half of what it had to have stays in "
        + "the store when the city grows;")
    static void costOfGranaries() {
        costs(EmpireTurns.GRANARY);
    }

    @Sentence(promise = 7, under = "Works", says = "WALLS 20, with the craft 2;")
    static void costOfWalls() {
        costs(EmpireTurns.WALLS);
    }

    @Sentence(promise = 7, under = "Works", says = "LIBRARY 24, with the craft 4: half as much more learning;")
    static void costOfLibraries() {
        costs(EmpireTurns.LIBRARY);
    }

    @Sentence(promise = 7, under = "Works", says = "MARKET 24, with the craft 5: half as much more coins.")
    static void costOfMarkets() {
        costs(EmpireTurns.MARKET);
    }

    /** A young city with the work 1 a turn, whose owner knows all that is needed, makes the work. */
    private static void costs(int work) {
        EmpireTurns game = Games.scholars(0, 1, 2, 3, 4, 5);
        int city = game.found(Games.LATE_SETTLER);
        game.queue(city, work);
        Games.endTurns(game, COST[work] - 1);
        Check.same("one less is not enough for " + work, game.city(city, 7), work);
        Check.same("it is in the store", game.city(city, 4), COST[work] - 1);
        int units = game.unitsOn(Games.LATE_TILE);
        game.endTurn();
        Check.same("made is " + work, game.city(city, 7), EmpireTurns.NONE);
        Check.same("nothing is left", game.city(city, 4), 0);
        Check.same("units", game.unitsOn(Games.LATE_TILE) - units, work < EmpireTurns.TEMPLE ? 1 : 0);
        Check.same("buildings", game.city(city, 6), work < EmpireTurns.TEMPLE ? 0 : 1 << work);
    }

    @Sentence(promise = 7, under = "Works", says = UNITS)
    static void craftsOfUnits() {
        needsJust(EmpireTurns.RIDER, 1, 0, 2, 3, 4, 5);
        needsJust(EmpireTurns.RAM, 3, 0, 1, 2, 4, 5);
        for (int kind = EmpireTurns.SETTLER; kind <= EmpireTurns.GUARD; kind++) {
            needsNone(kind);
        }
    }

    @Sentence(promise = 7, under = "Works", says = "GRANARY 16, with the craft 0")
    static void craftOfGranaries() {
        needsJust(EmpireTurns.GRANARY, 0, 1, 2, 3, 4, 5);
    }

    @Sentence(promise = 7, under = "Works", says = "WALLS 20, with the craft 2;")
    static void craftOfWalls() {
        needsJust(EmpireTurns.WALLS, 2, 0, 1, 3, 4, 5);
    }

    @Sentence(promise = 7, under = "Works", says = "LIBRARY 24, with the craft 4")
    static void craftOfLibraries() {
        needsJust(EmpireTurns.LIBRARY, 4, 0, 1, 2, 3, 5);
    }

    @Sentence(promise = 7, under = "Works", says = "MARKET 24, with the craft 5")
    static void craftOfMarkets() {
        needsJust(EmpireTurns.MARKET, 5, 0, 1, 2, 3, 4);
    }

    @Sentence(promise = 7, under = "Works", says = "Buildings: TEMPLE, cost 14")
    static void templesNeedNoCraft() {
        needsNone(EmpireTurns.TEMPLE);
    }

    private static void needsJust(int work, int craft, int... others) {
        EmpireTurns game = Games.scholars(others);
        game.queue(0, work);
        Games.endTurns(game, COST[work]);
        Check.holds("enough is in the store", game.city(0, 4) >= COST[work]);
        Check.same(work + " without " + craft, game.city(0, 7), work);
        Games.learnBy(game, 0, craft, 60);
        Check.same("known behind the works", game.city(0, 7), work);
        game.endTurn();
        Check.same(work + " with " + craft, game.city(0, 7), EmpireTurns.NONE);
    }

    private static void needsNone(int work) {
        EmpireTurns game = Games.scholars();
        Games.endTurns(game, 30);
        Check.same("crafts", game.player(0, 3), 0);
        game.queue(0, work);
        game.endTurn();
        Check.same("made is " + work, game.city(0, 7), EmpireTurns.NONE);
    }

    @Sentence(promise = 21, under = "Works", says = "TEMPLE, cost 14: 2 more culture each turn;")
    static void templesMakeCulture() {
        EmpireTurns game = Games.scholars();
        int before = game.city(0, 5);
        game.endTurn();
        Check.same("without", game.city(0, 5), before + 1);
        Games.makeAtOnce(game, EmpireTurns.TEMPLE);
        before = game.city(0, 5);
        game.endTurn();
        Check.same("with it", game.city(0, 5), before + 3);
    }

    @Sentence(promise = 21, under = "Works",
        says = "half of what it had to have stays in the store when the city grows;")
    static void granariesKeepHalf() {
        EmpireTurns game = Games.scholars(0);
        Games.makeAtOnce(game, EmpireTurns.GRANARY);
        boolean even = false;
        boolean odd = false;
        for (int i = 0; i < 60; i++) {
            int size = game.city(0, 2);
            int store = game.city(0, 3) + game.city(0, 8) - 2 * size;
            game.endTurn();
            if (game.city(0, 2) > size) {
                int asked = 10 + 5 * size;
                Check.same("half of " + asked + " comes back", game.city(0, 3), store - asked + asked / 2);
                even |= asked % 2 == 0;
                odd |= asked % 2 == 1;
            }
        }
        Check.holds("even and odd", even && odd);
    }

    @Sentence(promise = 21, under = "Works", says = "half as much more learning;")
    static void librariesMakeLearning() {
        EmpireTurns game = Games.scholars(4);
        Games.makeAtOnce(game, EmpireTurns.LIBRARY);
        boolean odd = false;
        for (int parts = 0; parts <= 100; parts += 5) {
            game.setParts(0, parts);
            int learning = game.city(0, 10) * parts / 100 + game.city(1, 10) * parts / 100;
            int more = game.city(0, 10) * parts / 100 / 2;
            int before = game.player(0, 1);
            int coins = game.ledger(0, 0);
            int all = game.city(0, 10) + game.city(1, 10);
            odd |= game.city(0, 10) * parts / 100 % 2 == 1;
            game.endTurn();
            Check.same("learning with parts " + parts, game.player(0, 1) - before, learning + more);
            Check.same("no more coins", game.ledger(0, 0) - coins, all - learning);
        }
        Check.holds("odd ones", odd);
    }

    @Sentence(promise = 21, under = "Works", says = "half as much more coins.")
    static void marketsMakeCoins() {
        EmpireTurns game = Games.scholars(5);
        Games.makeAtOnce(game, EmpireTurns.MARKET);
        boolean odd = false;
        for (int parts = 0; parts <= 100; parts += 5) {
            game.setParts(0, parts);
            int learning = game.city(0, 10) * parts / 100 + game.city(1, 10) * parts / 100;
            int rest = game.city(0, 10) - game.city(0, 10) * parts / 100;
            int otherRest = game.city(1, 10) - game.city(1, 10) * parts / 100;
            int before = game.player(0, 1);
            int coins = game.ledger(0, 0);
            odd |= rest % 2 == 1;
            game.endTurn();
            Check.same("no more learning", game.player(0, 1) - before, learning);
            Check.same("coins with parts " + parts, game.ledger(0, 0) - coins, rest + rest / 2 + otherRest);
        }
        Check.holds("odd ones", odd);
    }

    @Sentence(promise = 21, under = "Works", says = "A unit is made on the tile of the city.")
    static void unitsAreMadeInTheCity() {
        EmpireTurns game = Games.scholars();
        Games.makeAtOnce(game, EmpireTurns.WORKER);
        int made = Games.LATE_SETTLER + 1;
        int[] due = {0, EmpireTurns.WORKER, 0, 10, 2, 0};
        for (int what = 0; what < due.length; what++) {
            Check.same("tells " + what, game.unit(made, what), due[what]);
        }
        Check.same("on its tile", game.unitsOn(0), 1);
    }

    @Sentence(promise = 21, under = "Works", says = "A SETTLER needs the size 2 or more, and takes 1 from it.")
    static void settlersTakeOneOfTheSize() {
        EmpireTurns game = new EmpireTurns();
        Games.city(game, 0, 27);
        Games.endTurns(game, 8);
        game.queue(0, EmpireTurns.SETTLER);
        // The store has 15, 17 and then 20; the size is 1, and 2 from the next turn on.
        game.endTurn();
        Check.same("size", game.city(0, 2), 2);
        Check.same("17 of 20", game.city(0, 4), 17);
        game.endTurn();
        Check.same("size", game.city(0, 2), 1);
        Check.same("made", game.unitsOn(27), 1);
    }

    @Sentence(promise = 21, under = "Works",
        says = "If the first work of a queue cannot be made when it would be (for its craft,")
    static void worksWaitForTheirCraft() {
        EmpireTurns game = Games.scholars();
        Games.endTurns(game, 30);
        waits(game, EmpireTurns.RAM);
    }

    @Sentence(promise = 21, under = "Works", says = "its size,")
    static void settlersWaitForTheSize() {
        EmpireTurns game = new EmpireTurns();
        Games.layAll(game, EmpireTurns.DESERT);
        Games.city(game, 0, 27);
        Games.endTurns(game, 20);
        Check.same("size", game.city(0, 2), 1);
        waits(game, EmpireTurns.SETTLER);
        game.unqueue(0, 0);
        game.queue(0, EmpireTurns.WORKER);
        game.endTurn();
        Check.same("but others can be made", game.unitsOn(27), 1);
    }

    @Sentence(promise = 21, under = "Works", says = "a building that is there,")
    static void buildingsAreMadeOnce() {
        EmpireTurns game = Games.scholars();
        Games.endTurns(game, 30);
        Games.makeAtOnce(game, EmpireTurns.TEMPLE);
        Games.endTurns(game, 14);
        waits(game, EmpireTurns.TEMPLE);
        Check.same("still one", game.city(0, 6), 1 << EmpireTurns.TEMPLE);
    }

    @Sentence(promise = 21, under = "Works", says = "4 units on the tile,")
    static void unitsWaitForAPlaceOnTheTile() {
        EmpireTurns game = Games.scholars();
        Games.saveUp(game, 0, 100, 60);
        for (int i = 1; i <= 4; i++) {
            Games.makeAtOnce(game, EmpireTurns.GUARD);
            Check.same("units", game.unitsOn(0), i);
        }
        Games.endTurns(game, 12);
        waits(game, EmpireTurns.GUARD);
        game.step(Games.LATE_SETTLER + 1, 1, 0);
        game.endTurn();
        Check.same("when one has gone", game.city(0, 7), EmpireTurns.NONE);
        Check.same("units", game.unitsOn(0), 4);
    }

    @Sentence(promise = 21, under = "Works", says = "or 40 units in all),")
    static void unitsWaitForAPlaceInAll() {
        EmpireTurns game = Games.fortyUnits();
        waits(game, EmpireTurns.GUARD);
        Check.same("units on it", game.unitsOn(0), 0);
        game.unqueue(0, 0);
        game.queue(0, EmpireTurns.TEMPLE);
        game.endTurn();
        Check.same("but a building can be made", game.city(0, 6), 1 << EmpireTurns.TEMPLE);
        game.queue(0, EmpireTurns.GUARD);
        int settler = Games.firstUnit(game, EmpireTurns.SETTLER);
        game.found(settler);
        game.endTurn();
        Check.same("when one is gone", game.unitsOn(0), 1);
    }

    /** The work is first in the queue of the city 0, which has enough for it, and stays there. */
    private static void waits(EmpireTurns game, int work) {
        game.queue(0, work);
        for (int i = 0; i < 3; i++) {
            int store = game.city(0, 4) + game.city(0, 9);
            Check.holds("enough is in the store", store >= COST[work]);
            game.endTurn();
            Check.same("it stays there", game.city(0, 7), work);
            Check.same("and what is in the store", game.city(0, 4), store);
        }
    }

    @Sentence(promise = 21, under = "Works", says = STAYS)
    static void whatIsBehindWaitsToo() {
        EmpireTurns game = new EmpireTurns();
        Games.city(game, 0, 27);
        game.queue(0, EmpireTurns.MARKET);
        game.queue(0, EmpireTurns.WORKER);
        Games.endTurns(game, 20);
        Check.same("the first one waits", game.city(0, 7), EmpireTurns.MARKET);
        Check.same("the second one is not made", game.unitsOn(27), 0);
        Check.holds("there is enough for both", game.city(0, 4) >= 24 + 15);
        Check.same("nothing is lost", game.city(0, 4), 1 + 8 * 2 + 10 * 3 + 4);
    }
}
