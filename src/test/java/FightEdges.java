/** Edges of fights and of taking cities, as they are told under "Units". */
final class FightEdges {
    private static final String BARS =
        "Zones, borders and how many units there are bar steps, but neither fights nor taking cities.";
    private static final String FIGHTS = "A unit that would step to a tile with units of a player at war fights instead, "
        + "with the one of them whose defence times health is the greatest, of several the lowest; its attack has to be "
        + "above 0, and it has no moves left then.";
    private static final String STRENGTH = "Its strength is 10 times its attack times its health; that of the other one is "
        + "its defence times its health times 10, 15 on HILL, 13 on FOREST; 3 more in a city, and 8 more than that with "
        + "WALLS.";
    private static final String LOSES = "Each loses 1 and 9 times the strength of the other one divided by both strengths "
        + "together; who has no health left is gone.";
    private static final String MOVES = "A fight, and taking a city, needs the moves that a step there needs.";
    private static final String GOES_ON = "If the first one is left, and no units are there any more, it steps there, "
        + "whatever that costs, and takes a city that is there.";
    private static final String TAKES = "A step to a tile with a city of a player at war without units takes it; that "
        + "needs an attack above 0.";
    private static final String DESTROYED =
        "It loses 1 in size; with none left it is destroyed, the tile stays as it is, and that is all.";
    private static final String SPOILS = "Otherwise its queue is empty, and its store of work 0, and the one who takes it "
        + "gets of the coins of the loser these divided by twice as many cities as that one had with it;";
    private static final String CAPTURED = "and the lowest craft that the loser knows, and the other one does not, but "
        + "could learn.";

    private FightEdges() {
    }

    /** The units of the player 0 are on 27, the units of the player 1 on 28, which is of this land. */
    private static EmpireTurns field(int land, int[] mine, int... others) {
        EmpireTurns game = new EmpireTurns();
        game.lay(28, land);
        for (int kind : mine) {
            game.place(0, kind, 27);
        }
        for (int kind : others) {
            game.place(1, kind, 28);
        }
        return game;
    }

    // ---- what bars

    @Sentence(promise = 17, under = "Units", says = BARS)
    static void zonesDoNotBarFights() {
        EmpireTurns game = new EmpireTurns();
        int rider = game.place(0, EmpireTurns.RIDER, 27);
        game.place(1, EmpireTurns.GUARD, 28);
        int other = game.place(1, EmpireTurns.WORKER, 35);
        Check.holds("a fight from zone to zone", !game.step(rider, 0, 1));
        Check.holds("the other one has lost", game.unit(other, 3) < 10);
    }

    @Sentence(promise = 17, under = "Units", says = BARS)
    static void zonesDoNotBarTakingCities() {
        EmpireTurns game = new EmpireTurns();
        int rider = game.place(0, EmpireTurns.RIDER, 27);
        game.place(1, EmpireTurns.GUARD, 28);
        Games.city(game, 1, 35);
        Check.holds("from zone to zone", game.step(rider, 0, 1));
        Check.same("destroyed", game.tile(35, 3), EmpireTurns.NONE);
    }

    @Sentence(promise = 17, under = "Units", says = BARS)
    static void zonesDoNotBarTheStepBehindAFight() {
        EmpireTurns game = new EmpireTurns();
        int first = game.place(0, EmpireTurns.RAM, 27);
        int second = game.place(0, EmpireTurns.RAM, 27);
        game.place(1, EmpireTurns.WORKER, 35);
        game.place(1, EmpireTurns.GUARD, 28);
        game.step(first, 0, 1);
        Check.holds("from zone to zone", game.step(second, 0, 1));
        Check.same("tile", game.unit(second, 2), 35);
    }

    @Sentence(promise = 17, under = "Units", says = BARS)
    static void bordersOfAThirdOneDoNotBarFights() {
        EmpireTurns game = new EmpireTurns();
        Games.city(game, 2, 29);
        Games.city(game, 0, 24);
        Games.city(game, 1, 7);
        int[] rams = {game.place(0, EmpireTurns.RAM, 26), game.place(0, EmpireTurns.RAM, 26)};
        game.place(1, EmpireTurns.WORKER, 27);
        game.endTurn();
        Check.same("whose", game.tile(27, 2), 2);
        Games.agree(game, 0, 2, EmpireTurns.PEACE, 9, 0);
        Check.badState("they bar a step", game, () -> game.step(rams[0], 1, 1));
        Check.holds("but no fight", !game.step(rams[0], 1, 0));
        Check.holds("nor the step behind it", game.step(rams[1], 1, 0));
    }

    @Sentence(promise = 17, under = "Units", says = BARS)
    static void fourUnitsDoNotBarFights() {
        EmpireTurns game = field(EmpireTurns.PLAIN, new int[] {EmpireTurns.RIDER}, EmpireTurns.WORKER,
            EmpireTurns.WORKER, EmpireTurns.WORKER, EmpireTurns.WORKER);
        Check.same("units", game.unitsOn(28), 4);
        Check.holds("a fight", !game.step(0, 1, 0));
        Check.same("no moves left", game.unit(0, 4), 0);
    }

    // ---- fights

    @Sentence(promise = 17, under = "Units", says = FIGHTS)
    static void theStrongestDefends() {
        EmpireTurns game = field(EmpireTurns.PLAIN, new int[] {EmpireTurns.RIDER}, EmpireTurns.WORKER,
            EmpireTurns.RIDER, EmpireTurns.GUARD, EmpireTurns.GUARD);
        game.step(0, 1, 0);
        int[] due = {10, 10, 5, 10};
        for (int i = 0; i < due.length; i++) {
            Check.same("health of the other " + i, game.unit(1 + i, 3), due[i]);
        }
        Check.same("no moves left", game.unit(0, 4), 0);
    }

    @Sentence(promise = 17, under = "Units", says = FIGHTS)
    static void healthCountsForTheStrongest() {
        EmpireTurns game = field(EmpireTurns.PLAIN, new int[] {EmpireTurns.RAM, EmpireTurns.RAM, EmpireTurns.RIDER},
            EmpireTurns.RIDER, EmpireTurns.GUARD);
        game.step(0, 1, 0);
        // 600 to 400: the GUARD has 4 left, so that it has 16, and the RIDER 20.
        Check.same("the GUARD", game.unit(4, 3), 4);
        game.step(1, 1, 0);
        // 600 to 200: the RIDER has 3 left, so that it has 6.
        Check.same("then the RIDER", game.unit(3, 3), 3);
        game.step(2, 1, 0);
        // 400 to 160: 1 and 6 are more than 4.
        Check.holds("then the GUARD again", !Games.isThere(game, 4));
        Check.same("the RIDER", game.unit(3, 3), 3);
    }

    @Sentence(promise = 17, under = "Units", says = FIGHTS)
    static void ofSeveralAlikeTheLowestDefends() {
        for (int guard = 0; guard < 3; guard++) {
            EmpireTurns game = new EmpireTurns();
            game.place(0, EmpireTurns.RAM, 27);
            for (int i = 0; i < 3; i++) {
                game.place(1, i < guard ? EmpireTurns.WORKER : EmpireTurns.GUARD, 28);
            }
            game.step(0, 1, 0);
            for (int i = 0; i < 3; i++) {
                Check.same("health of the other " + i, game.unit(1 + i, 3), i == guard ? 4 : 10);
            }
        }
        // RIDERs have 2 times 10, a GUARD that has lost 5 has 4 times 5.
        EmpireTurns game = field(EmpireTurns.PLAIN, new int[] {EmpireTurns.RIDER, EmpireTurns.RIDER},
            EmpireTurns.GUARD, EmpireTurns.RIDER);
        game.step(0, 1, 0);
        Check.same("the GUARD", game.unit(2, 3), 5);
        game.step(1, 1, 0);
        Check.same("alike, not the higher one", game.unit(3, 3), 10);
        Check.holds("but the lower one", !Games.isThere(game, 2));
    }

    @Sentence(promise = 17, under = "Units", says = FIGHTS)
    static void anAttackIsNeeded() {
        for (int kind = EmpireTurns.SETTLER; kind <= EmpireTurns.RAM; kind++) {
            EmpireTurns game = field(EmpireTurns.PLAIN, new int[] {kind}, EmpireTurns.GUARD);
            if (kind < EmpireTurns.GUARD) {
                Check.badState("kind " + kind, game, () -> game.step(0, 1, 0));
            } else {
                Check.holds("kind " + kind, !game.step(0, 1, 0));
            }
        }
    }

    @Sentence(promise = 17, under = "Units", says = FIGHTS)
    static void noMovesAreLeftBehindAFight() {
        EmpireTurns game = field(EmpireTurns.PLAIN, new int[] {EmpireTurns.RIDER}, EmpireTurns.GUARD);
        Games.city(game, 0, 48);
        Games.city(game, 1, 63);
        game.step(0, 1, 0);
        Check.same("none of 4", game.unit(0, 4), 0);
        Check.badState("no second fight", game, () -> game.step(0, 1, 0));
        Check.same("the other one has all", game.unit(1, 4), 2);
        game.endTurn();
        Check.same("they come back", game.unit(0, 4), 4);
    }

    @Sentence(promise = 17, under = "Units", says = STRENGTH)
    static void strengthsByLand() {
        int[] lands = {EmpireTurns.PLAIN, EmpireTurns.HILL, EmpireTurns.FOREST, EmpireTurns.DESERT, EmpireTurns.RIVER};
        int[] times = {10, 15, 13, 10, 10};
        for (int i = 0; i < lands.length; i++) {
            for (int other = EmpireTurns.SETTLER; other <= EmpireTurns.RAM; other++) {
                fights(lands[i], EmpireTurns.GUARD, 200, other, times[i]);
                fights(lands[i], EmpireTurns.RIDER, 400, other, times[i]);
                fights(lands[i], EmpireTurns.RAM, 600, other, times[i]);
            }
        }
    }

    private static void fights(int land, int first, int strength, int other, int times) {
        int[] defences = {1, 1, 4, 2, 1};
        EmpireTurns game = field(land, new int[] {first}, other);
        game.step(0, 1, 0);
        int defence = defences[other] * 10 * times;
        Check.same(first + " of " + other, game.unit(0, 3), 9 - 9 * defence / (strength + defence));
        Check.same(other + " of " + first, game.unit(1, 3), 9 - 9 * strength / (strength + defence));
    }

    /** Here the sums are near to the next number, so that not even 1 more or less would do. */
    @Sentence(promise = 17, under = "Units", says = STRENGTH)
    static void strengthsJustBelowTheNextLoss() {
        EmpireTurns plain = field(EmpireTurns.PLAIN, new int[] {EmpireTurns.RAM, EmpireTurns.RAM},
            EmpireTurns.GUARD);
        plain.step(0, 1, 0);
        Check.same("600 to 400", plain.unit(2, 3), 9 - 5);
        plain.step(1, 1, 0);
        Check.same("9 times 4 times 4 times 10 by 760 is 1", plain.unit(1, 3), 9 - 1);
        EmpireTurns forest = field(EmpireTurns.FOREST, new int[] {EmpireTurns.RIDER, EmpireTurns.RIDER},
            EmpireTurns.GUARD);
        forest.step(0, 1, 0);
        Check.same("400 to 520", forest.unit(2, 3), 9 - 3);
        forest.step(1, 1, 0);
        Check.same("9 times 4 times 6 times 13 by 712 is 3", forest.unit(1, 3), 9 - 3);
    }

    @Sentence(promise = 17, under = "Units", says = STRENGTH)
    static void cityMakesThreeMore() {
        // The city on a HILL makes 40 times 18: 9 times 600 by 1320 and 9 times 720 by 1320.
        EmpireTurns game = field(EmpireTurns.HILL, new int[] {EmpireTurns.RAM}, EmpireTurns.GUARD);
        Games.city(game, 1, 28);
        game.step(0, 1, 0);
        Check.same("who steps", game.unit(0, 3), 9 - 4);
        Check.same("who is in the city", game.unit(1, 3), 9 - 4);
        // The city on PLAIN makes 40 times 13: 9 times 400 by 920 and 9 times 520 by 920.
        EmpireTurns plain = field(EmpireTurns.PLAIN, new int[] {EmpireTurns.RIDER}, EmpireTurns.GUARD);
        Games.city(plain, 1, 28);
        plain.step(0, 1, 0);
        Check.same("who steps", plain.unit(0, 3), 9 - 5);
        Check.same("who is in the city", plain.unit(1, 3), 9 - 3);
    }

    @Sentence(promise = 17, under = "Units", says = STRENGTH)
    static void wallsMakeEightMore() {
        EmpireTurns game = new EmpireTurns();
        Games.layAll(game, EmpireTurns.RIVER);
        int[] mine = {game.place(0, EmpireTurns.RIDER, 27), game.place(0, EmpireTurns.RAM, 27),
            game.place(0, EmpireTurns.RAM, 27)};
        int guard = game.place(1, EmpireTurns.GUARD, 28);
        Games.city(game, 1, 28);
        Games.city(game, 1, 63);
        Games.city(game, 0, 24);
        game.setParts(0, 0);
        game.learn(1, 2);
        game.queue(0, EmpireTurns.WALLS);
        for (int i = 0; i < 60 && game.city(0, 6) == 0; i++) {
            game.endTurn();
        }
        Check.same("WALLS", game.city(0, 6), 1 << EmpireTurns.WALLS);
        // 21 times 4 times the health of the GUARD, which is 10, 7 and 2, to 400, 600 and 600.
        int[] mineLose = {1 + 6, 1 + 4, 1 + 1};
        int[] guardHas = {7, 2};
        for (int i = 0; i < mine.length; i++) {
            game.step(mine[i], 1, 0);
            Check.same("who steps", game.unit(mine[i], 3), 10 - mineLose[i]);
            if (i < guardHas.length) {
                Check.same("who is behind the WALLS", game.unit(guard, 3), guardHas[i]);
            }
        }
        Check.holds("gone", !Games.isThere(game, guard));
    }

    @Sentence(promise = 17, under = "Units", says = STRENGTH)
    static void healthCountsForStrengths() {
        EmpireTurns game = field(EmpireTurns.PLAIN, new int[] {EmpireTurns.GUARD, EmpireTurns.GUARD},
            EmpireTurns.GUARD);
        game.step(0, 1, 0);
        Check.same("200 to 400", game.unit(2, 3), 9 - 3);
        game.step(1, 1, 0);
        Check.same("200 to 240", game.unit(2, 3), 6 - 1 - 4);
        Check.same("240 to 200", game.unit(1, 3), 9 - 4);
    }

    @Sentence(promise = 17, under = "Units", says = LOSES)
    static void whoHasNoHealthLeftIsGone() {
        EmpireTurns game = field(EmpireTurns.PLAIN, new int[] {EmpireTurns.RAM, EmpireTurns.RAM},
            EmpireTurns.WORKER, EmpireTurns.WORKER);
        game.step(0, 1, 0);
        Check.same("2 are left", game.unit(2, 3), 2);
        game.step(1, 1, 0);
        Check.same("the other one", game.unit(3, 3), 2);
        Games.city(game, 0, 48);
        Games.city(game, 1, 63);
        game.endTurn();
        Check.holds("it stays, as one is left", !game.step(0, 1, 0));
        Check.nothingThere("gone", game, () -> game.unit(2, 3));
        Check.same("one is left", game.unitsOn(28), 1);
    }

    @Sentence(promise = 17, under = "Units", says = LOSES)
    static void whoLosesJustAllIsGone() {
        EmpireTurns game = field(EmpireTurns.PLAIN, new int[] {EmpireTurns.GUARD, EmpireTurns.RIDER},
            EmpireTurns.GUARD);
        game.step(0, 1, 0);
        Check.same("200 to 400", game.unit(2, 3), 6);
        // 400 to 240: it loses 1 and 5.
        Check.holds("it steps there", game.step(1, 1, 0));
        Check.nothingThere("gone", game, () -> game.unit(2, 3));
        EmpireTurns other = field(EmpireTurns.HILL, new int[] {EmpireTurns.GUARD}, EmpireTurns.GUARD);
        Games.city(other, 0, 24);
        Games.city(other, 1, 31);
        other.step(0, 1, 0);
        Games.endTurns(other, 5);
        Check.same("the first", other.unit(0, 3), 8);
        Check.same("the other one", other.unit(1, 3), 10);
        // 160 to 600: it loses 1 and 7.
        Check.holds("not on the tile", !other.step(0, 1, 0));
        Check.nothingThere("gone", other, () -> other.unit(0, 3));
        Check.same("the other one loses 1 and 1", other.unit(1, 3), 8);
    }

    @Sentence(promise = 17, under = "Units", says = LOSES)
    static void bothCanBeGone() {
        EmpireTurns game = field(EmpireTurns.PLAIN, new int[] {EmpireTurns.RIDER}, EmpireTurns.GUARD);
        Games.city(game, 0, 25);
        Games.city(game, 1, 31);
        int[] left = {5, 1};
        for (int health : left) {
            Check.holds("both stay", !game.step(0, 1, 0));
            Check.same("the first", game.unit(0, 3), health);
            Check.same("the other one", game.unit(1, 3), health);
            game.endTurn();
        }
        // Both have 2 and lose 1 and 4.
        Check.holds("not on the tile", !game.step(0, 1, 0));
        Check.nothingThere("the first is gone", game, () -> game.unit(0, 0));
        Check.nothingThere("the other one is gone", game, () -> game.unit(1, 0));
        Check.same("nobody is there", game.unitsOn(27) + game.unitsOn(28), 0);
    }

    @Sentence(promise = 17, under = "Units", says = LOSES)
    static void theFirstCanBeGone() {
        EmpireTurns game = field(EmpireTurns.HILL, new int[] {EmpireTurns.GUARD}, EmpireTurns.GUARD);
        Games.city(game, 0, 24);
        Games.city(game, 1, 31);
        game.step(0, 1, 0);
        // 200 to 600: it loses 1 and 6, and the other one 1 and 2.
        Check.same("the first", game.unit(0, 3), 3);
        Check.same("the other one", game.unit(1, 3), 7);
        game.endTurn();
        Check.holds("not on the tile", !game.step(0, 1, 0));
        Check.nothingThere("gone", game, () -> game.unit(0, 0));
        // 80 to 480: the other one loses 1 and 1.
        Check.same("the other one is left", game.unit(1, 3), 8 - 2);
        Check.same("where it was", game.unit(1, 2), 28);
    }

    @Sentence(promise = 17, under = "Units", says = MOVES)
    static void fightsNeedTheMovesOfAStep() {
        EmpireTurns game = field(EmpireTurns.FOREST, new int[] {}, EmpireTurns.WORKER);
        int guard = game.place(0, EmpireTurns.GUARD, 26);
        game.step(guard, 1, 0);
        Check.badState("1 of 2", game, () -> game.step(guard, 1, 0));
        int fresh = game.place(0, EmpireTurns.GUARD, 27);
        Check.holds("2 of 2", !game.step(fresh, 1, 0));
        EmpireTurns plain = field(EmpireTurns.PLAIN, new int[] {}, EmpireTurns.WORKER);
        int other = plain.place(0, EmpireTurns.GUARD, 26);
        plain.step(other, 1, 0);
        Check.holds("1 of 1", !plain.step(other, 1, 0));
        Check.badState("0 of 1", plain, () -> plain.step(other, 1, 0));
    }

    @Sentence(promise = 17, under = "Units", says = MOVES)
    static void takingCitiesNeedsTheMovesOfAStep() {
        EmpireTurns game = new EmpireTurns();
        game.lay(28, EmpireTurns.HILL);
        Games.city(game, 1, 28);
        int guard = game.place(0, EmpireTurns.GUARD, 26);
        int rider = game.place(0, EmpireTurns.RIDER, 26);
        game.step(guard, 1, 0);
        Check.badState("1 of 2", game, () -> game.step(guard, 1, 0));
        game.step(rider, 1, 0);
        Check.holds("3 of 2", game.step(rider, 1, 0));
        Check.same("1 is left", game.unit(rider, 4), 1);
    }

    @Sentence(promise = 17, under = "Units", says = GOES_ON)
    static void whoWinsStepsThereWhateverThatCosts() {
        EmpireTurns game = field(EmpireTurns.FOREST, new int[] {EmpireTurns.RAM, EmpireTurns.RAM},
            EmpireTurns.WORKER);
        Check.holds("the other one is left", !game.step(0, 1, 0));
        Check.same("it stays", game.unit(0, 2), 27);
        Check.holds("the other one is gone", game.step(1, 1, 0));
        Check.same("it is there", game.unit(1, 2), 28);
        Check.same("no moves left", game.unit(1, 4), 0);
        Check.same("alone", game.unitsOn(28), 1);
    }

    @Sentence(promise = 17, under = "Units", says = GOES_ON)
    static void whoWinsTakesTheCity() {
        EmpireTurns game = Games.readyToTake();
        game.queue(0, EmpireTurns.WORKER);
        game.endTurn();
        Check.same("a WORKER is in the city", game.unitsOn(28), 1);
        int owner = 1;
        for (int turn = 0; turn < 5 && owner == 1; turn++) {
            boolean there = game.step(Games.TAKER, 1, 0);
            owner = game.city(0, 0);
            Check.holds("on the tile, if it is taken", there == (owner == 0));
            if (there) {
                Check.same("no moves left", game.unit(Games.TAKER, 4), 0);
                Check.same("size", game.city(0, 2), 1);
                Check.same("its tile", game.tile(28, 2), 0);
            } else {
                game.endTurn();
            }
        }
        Check.same("taken", owner, 0);
    }

    // ---- cities that are taken

    @Sentence(promise = 17, under = "Units", says = TAKES)
    static void anEmptyCityIsTaken() {
        EmpireTurns game = Games.readyToTake();
        Check.holds("on the tile", game.step(Games.TAKER, 1, 0));
        Check.same("owner", game.city(0, 0), 0);
        Check.same("cities of the one", game.player(0, 6), 2);
        Check.same("cities of the other one", game.player(1, 6), 1);
        Check.same("the moves of a step", game.unit(Games.TAKER, 4), 3);
        Check.same("culture stays", game.city(0, 5), 14);
        Check.same("food stays", game.city(0, 3), 1);
    }

    @Sentence(promise = 17, under = "Units", says = TAKES)
    static void takingNeedsAnAttack() {
        for (int kind = EmpireTurns.SETTLER; kind <= EmpireTurns.RAM; kind++) {
            EmpireTurns game = new EmpireTurns();
            Games.city(game, 1, 28);
            game.place(0, kind, 27);
            if (kind < EmpireTurns.GUARD) {
                Check.badState("kind " + kind, game, () -> game.step(1, 1, 0));
            } else {
                Check.holds("kind " + kind, game.step(1, 1, 0));
            }
        }
    }

    @Sentence(promise = 17, under = "Units", says = DESTROYED)
    static void aCityOfTheSizeOneIsDestroyed() {
        EmpireTurns game = new EmpireTurns();
        Games.city(game, 1, 28);
        Games.city(game, 0, 24);
        Games.city(game, 2, 63);
        int rider = game.place(0, EmpireTurns.RIDER, 27);
        Games.saveUp(game, 1, 5, 7);
        Check.same("size", game.city(0, 2), 1);
        Check.same("coins of the loser", game.player(1, 0), 5);
        int mine = game.player(0, 0);
        Check.holds("on the tile", game.step(rider, 1, 0));
        Check.nothingThere("destroyed", game, () -> game.city(0, 0));
        Check.same("the tile stays the loser's", game.tile(28, 2), 1);
        Check.same("no coins are lost", game.player(1, 0), 5);
        Check.same("no coins are got", game.player(0, 0), mine);
        Check.same("in no ledger", game.ledger(0, 2) + game.ledger(1, 6), 0);
        Check.same("no city more", game.player(0, 6), 1);
    }

    @Sentence(promise = 17, under = "Units", says = DESTROYED)
    static void aDestroyedCityLeavesItsLandAndRoads() {
        EmpireTurns game = new EmpireTurns();
        game.lay(28, EmpireTurns.DESERT);
        Games.city(game, 1, 28);
        game.place(1, EmpireTurns.WORKER, 28);
        game.place(0, EmpireTurns.RIDER, 26);
        Games.city(game, 0, 24);
        game.work(1, EmpireTurns.ROAD);
        Games.endTurns(game, 2);
        game.step(1, 1, 0);
        game.step(2, 1, 0);
        Check.holds("on the tile", game.step(2, 1, 0));
        Check.same("land", game.tile(28, 0), EmpireTurns.DESERT);
        Check.same("made", game.tile(28, 1), EmpireTurns.ROAD);
        Check.same("no city", game.tile(28, 3), EmpireTurns.NONE);
        Check.same("no craft", game.player(0, 3), 0);
    }

    @Sentence(promise = 17, under = "Units", says = DESTROYED)
    static void aDestroyedCityGivesNoCraft() {
        EmpireTurns game = new EmpireTurns();
        Games.layAll(game, EmpireTurns.DESERT);
        Games.city(game, 1, 28);
        Games.city(game, 0, 24);
        int rider = game.place(0, EmpireTurns.RIDER, 27);
        Games.learnBy(game, 1, 0, 20);
        Check.same("the loser knows", game.player(1, 3), 1);
        Check.same("size", game.city(0, 2), 1);
        game.step(rider, 1, 0);
        Check.same("nothing is captured", game.player(0, 3), 0);
    }

    @Sentence(promise = 17, under = "Units", says = DESTROYED)
    static void aCityOfTheSizeTwoIsNot() {
        EmpireTurns game = Games.readyToTake();
        Check.same("size", game.city(0, 2), 2);
        game.step(Games.TAKER, 1, 0);
        Check.same("1 less", game.city(0, 2), 1);
        Check.same("the city on it", game.tile(28, 3), 0);
    }

    @Sentence(promise = 17, under = "Units", says = SPOILS)
    static void queueAndWorkAreGone() {
        EmpireTurns game = Games.readyToTake();
        game.queue(0, EmpireTurns.MARKET);
        game.queue(0, EmpireTurns.GUARD);
        Check.holds("work", game.city(0, 4) > 0);
        game.step(Games.TAKER, 1, 0);
        Check.same("no work", game.city(0, 4), 0);
        Check.same("no queue", game.city(0, 7), EmpireTurns.NONE);
        Check.same("the first one then", game.queue(0, EmpireTurns.WORKER), 1);
    }

    @Sentence(promise = 17, under = "Units", says = SPOILS)
    static void spoilsAreAPartOfTheCoins() {
        // With two cities it is a quarter, rounded down; they bring 2 coins each turn.
        for (int turns = 0; turns <= 4; turns++) {
            EmpireTurns game = Games.readyToTake();
            game.setParts(1, 0);
            Games.endTurns(game, turns);
            int coins = game.player(1, 0);
            int mine = game.player(0, 0);
            game.step(Games.TAKER, 1, 0);
            Check.same("got of " + coins, game.player(0, 0), mine + coins / 4);
            Check.same("lost of " + coins, game.player(1, 0), coins - coins / 4);
            Check.same("ledger of who takes", game.ledger(0, 2), coins / 4);
            Check.same("ledger of the loser", game.ledger(1, 6), coins / 4);
        }
    }

    @Sentence(promise = 17, under = "Units", says = SPOILS)
    static void theLastCityBringsHalf() {
        for (int turns = 0; turns <= 1; turns++) {
            EmpireTurns game = new EmpireTurns();
            Games.city(game, 1, 28);
            Games.city(game, 0, 24);
            int rider = game.place(0, EmpireTurns.RIDER, 27);
            game.setParts(1, 0);
            Games.endTurns(game, 9 + turns);
            Check.same("coins", game.player(1, 0), 9 + turns);
            int mine = game.player(0, 0);
            game.step(rider, 1, 0);
            Check.same("half of it", game.player(0, 0) - mine, (9 + turns) / 2);
            Check.same("the rest", game.player(1, 0), 9 + turns - (9 + turns) / 2);
        }
    }

    @Sentence(promise = 17, under = "Units", says = CAPTURED)
    static void theLowestCraftIsCaptured() {
        EmpireTurns game = Games.readyToTake();
        Games.learnBy(game, 1, 1, 30);
        Games.learnBy(game, 1, 0, 30);
        Games.learnBy(game, 1, 2, 30);
        Check.same("the loser knows", game.player(1, 3), 7);
        Games.agree(game, 1, 0, EmpireTurns.CRAFT, 1, 0);
        game.step(Games.TAKER, 1, 0);
        Check.same("the lowest that is not known, and one alone", game.player(0, 3), 3);
        Check.same("the loser knows it still", game.player(1, 3), 7);
    }

    @Sentence(promise = 17, under = "Units", says = CAPTURED)
    static void aCraftThatCannotBeLearnedIsNotCaptured() {
        // The craft 1 comes to need 0 when it is the goal already, and 2 needs 1.
        EmpireTurns game = new EmpireTurns();
        game.learn(1, 1);
        game.need(1, 0);
        game.need(2, 1);
        Games.city(game, 1, 28);
        Games.city(game, 0, 24);
        int rider = game.place(0, EmpireTurns.RIDER, 27);
        game.setParts(1, 100);
        Games.endTurns(game, 18);
        Games.learnBy(game, 1, 2, 30);
        Games.learnBy(game, 1, 3, 40);
        Check.same("the loser knows", game.player(1, 3), 14);
        game.step(rider, 1, 0);
        Check.same("neither 1 nor 2", game.player(0, 3), 8);
    }

    @Sentence(promise = 17, under = "Units", says = CAPTURED)
    static void nothingMayBeLeftToCapture() {
        EmpireTurns game = Games.readyToTake();
        Games.learnBy(game, 0, 0, 30);
        game.step(Games.TAKER, 1, 0);
        Check.same("the loser knows none", game.player(0, 3), 1);
        EmpireTurns alike = Games.readyToTake();
        Games.learnBy(alike, 1, 0, 30);
        Games.agree(alike, 1, 0, EmpireTurns.CRAFT, 1, 0);
        alike.step(Games.TAKER, 1, 0);
        Check.same("both know the same", alike.player(0, 3), 1);
    }
}
