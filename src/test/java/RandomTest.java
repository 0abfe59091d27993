/** Games of random calls: what always holds, holds, and a call that throws changes nothing. */
public final class RandomTest {
    private static final int GAMES = 150;
    private static final int CALLS = 400;
    private static final int ASKED_EVERY = 8;
    private static final int METHODS = 27;
    private static final int[] ODD = {-1, -2, 64, 100, 40, 12, Integer.MAX_VALUE, Integer.MIN_VALUE};

    private RandomTest() {
    }

    public static void main(String[] args) {
        for (int seed = 1; seed <= GAMES; seed++) {
            playOne(new Dice(seed), seed);
        }
        Check.finish("RandomTest");
    }

    private static void playOne(Dice dice, int seed) {
        EmpireTurns game = new EmpireTurns();
        begin(game, dice);
        int turn = 0;
        for (int i = 0; i < CALLS; i++) {
            int method = dice.below(3) > 0 ? often(dice) : dice.below(METHODS);
            boolean watched = i % 16 == 0;
            String before = watched ? Snapshot.of(game) : "";
            boolean threw = threw(game, dice, method, "game " + seed + ", call " + i);
            if (threw && watched) {
                Check.holds("game " + seed + ", call " + i + " of method " + method + " changed something",
                    before.equals(Snapshot.of(game)));
            }
            turn += method == 19 ? 1 : 0;
            if (i % ASKED_EVERY == 0) {
                alwaysHolds(game, "game " + seed + " behind call " + i);
            }
        }
        Check.same("turn of game " + seed, game.endTurn(), turn + 1);
    }

    private static void begin(EmpireTurns game, Dice dice) {
        for (int tile = 0; tile < 64; tile++) {
            game.lay(tile, dice.below(4) == 0 ? dice.between(0, 5) : dice.between(1, 5));
        }
        for (int i = 0; i < 30; i++) {
            tryCall(game, dice, 2);
            tryCall(game, dice, 3);
        }
    }

    /** Calls that carry a game on: orders, queues, steps, jobs, offers and ends of turns. */
    private static int often(Dice dice) {
        int[] methods = {3, 5, 7, 8, 10, 11, 15, 15, 15, 15, 16, 19, 19, 19, 5, 9};
        return methods[dice.below(methods.length)];
    }

    private static void tryCall(EmpireTurns game, Dice dice, int method) {
        threw(game, dice, method, "beginning");
    }

    private static boolean threw(EmpireTurns game, Dice dice, int method, String where) {
        try {
            call(game, dice, method);
            return false;
        } catch (IllegalArgumentException e) {
            Check.holds(where + ": IllegalArgumentException of method " + method, mayThrow(method, 'A'));
        } catch (IndexOutOfBoundsException e) {
            Check.holds(where + ": IndexOutOfBoundsException of method " + method, mayThrow(method, 'B')
                && e.getClass() == IndexOutOfBoundsException.class && Check.isOwn(e));
        } catch (IllegalStateException e) {
            Check.holds(where + ": IllegalStateException of method " + method, mayThrow(method, 'S'));
        }
        return true;
    }

    private static boolean mayThrow(int method, char what) {
        String[] throwing = {
            "AS", "AS", "AS", "BS", "BA", "BAS", "BA", "BS", "AS", "A", "A", "ABS", "ABS", "BA", "A",
            "BAS", "BAS", "BA", "A", "", "B", "BS", "BA", "A", "A", "A", "A",
        };
        return throwing[method].indexOf(what) >= 0;
    }

    /** Mostly from the range, now and then far from it. */
    private static int pick(Dice dice, int least, int most) {
        return dice.below(20) == 0 ? ODD[dice.below(ODD.length)] : dice.between(least, most);
    }

    private static void call(EmpireTurns game, Dice d, int method) {
        switch (method) {
            case 0: game.lay(pick(d, 0, 63), pick(d, 0, 5)); break;
            case 1: game.need(pick(d, 0, 9), pick(d, 0, 4)); break;
            case 2: game.place(pick(d, 0, 3), pick(d, 0, 4), pick(d, 0, 63)); break;
            case 3: game.found(pick(d, 0, 45)); break;
            case 4: game.order(pick(d, 0, 11), pick(d, 1, 9), pick(d, 1, 9), pick(d, 1, 9)); break;
            case 5: game.queue(pick(d, 0, 11), pick(d, 0, 9)); break;
            case 6: game.unqueue(pick(d, 0, 11), pick(d, 0, 2)); break;
            case 7: game.hurry(pick(d, 0, 11)); break;
            case 8: game.learn(pick(d, 0, 3), pick(d, -1, 9)); break;
            case 9: game.setParts(pick(d, 0, 3), pick(d, 0, 100)); break;
            case 10: game.offer(pick(d, 0, 3), pick(d, 0, 3), pick(d, 0, 3), pick(d, 1, 20), pick(d, 0, 9)); break;
            case 11: game.agree(pick(d, 0, 3), pick(d, 0, 3)); break;
            case 12: game.cancel(pick(d, 0, 3), pick(d, 0, 20)); break;
            case 13: game.treaty(pick(d, 0, 20), pick(d, 0, 5)); break;
            case 14: game.atWar(pick(d, 0, 3), pick(d, 0, 3)); break;
            case 15: game.step(pick(d, 0, 60), pick(d, -1, 1), pick(d, -1, 1)); break;
            case 16: game.work(pick(d, 0, 60), 1 << pick(d, 0, 2)); break;
            case 17: game.unit(pick(d, 0, 60), pick(d, 0, 5)); break;
            case 18: game.unitsOn(pick(d, 0, 63)); break;
            case 19: game.endTurn(); break;
            case 20: game.plan(pick(d, 0, 11)); break;
            case 21: game.planByAll(pick(d, 0, 11)); break;
            case 22: game.city(pick(d, 0, 11), pick(d, 0, 10)); break;
            case 23: game.tile(pick(d, 0, 63), pick(d, 0, 3)); break;
            case 24: game.pull(pick(d, 0, 3), pick(d, 0, 63)); break;
            case 25: game.player(pick(d, 0, 3), pick(d, 0, 6)); break;
            default: game.ledger(pick(d, 0, 3), pick(d, 0, 7)); break;
        }
    }

    private static void alwaysHolds(EmpireTurns game, String where) {
        int[] sizes = new int[4];
        int[] cities = new int[4];
        for (int city = 0; city < 12; city++) {
            if (isCity(game, city)) {
                sizes[game.city(city, 0)] += game.city(city, 2);
                cities[game.city(city, 0)]++;
                checkCity(game, city, where + ", city " + city);
            }
        }
        checkUnits(game, where);
        int[] held = new int[4];
        for (int tile = 0; tile < 64; tile++) {
            if (game.tile(tile, 2) != EmpireTurns.NONE) {
                held[game.tile(tile, 2)]++;
            }
        }
        for (int player = 0; player < 4; player++) {
            String who = where + ", player " + player;
            Check.same("cities, " + who, game.player(player, 6), cities[player]);
            Check.same("score, " + who, game.player(player, 5), 3 * sizes[player]
                + 5 * Integer.bitCount(game.player(player, 3)) + held[player]
                + game.player(player, 0) / 20 - 10 * game.player(player, 4));
            checkCoins(game, player, who);
        }
        checkPlayersTogether(game, where);
    }

    private static boolean isCity(EmpireTurns game, int city) {
        try {
            game.city(city, 0);
            return true;
        } catch (IndexOutOfBoundsException e) {
            return false;
        }
    }

    private static void checkCity(EmpireTurns game, int city, String where) {
        int tile = game.city(city, 1);
        Check.same("the city's tile, " + where, game.tile(tile, 3), city);
        Check.same("the tile's owner, " + where, game.tile(tile, 2), game.city(city, 0));
        Check.holds("size, " + where, game.city(city, 2) >= 1);
        Check.holds("stores, " + where, game.city(city, 3) >= 0 && game.city(city, 4) >= 0);
        Check.holds("buildings, " + where, (game.city(city, 6) & ~0x3E0) == 0);
        Check.holds("culture, " + where, game.city(city, 5) >= 5);
        long plan = game.plan(city);
        Check.holds("as many tiles as it has, at most, " + where, Long.bitCount(plan) <= game.city(city, 2));
        Check.holds("not its own tile, " + where, (plan >>> tile & 1) == 0);
        for (int other = 0; other < city; other++) {
            Check.holds("no tile of another plan, " + where, !isCity(game, other) || (plan & game.plan(other)) == 0);
        }
        try {
            Check.same("by all, " + where, game.planByAll(city), plan);
        } catch (IllegalStateException e) {
            Check.holds("a large one, " + where, hasLarge(game, city));
        }
    }

    private static boolean hasLarge(EmpireTurns game, int last) {
        for (int city = 0; city <= last; city++) {
            if (isCity(game, city) && game.city(city, 2) > 3) {
                return true;
            }
        }
        return false;
    }

    private static void checkUnits(EmpireTurns game, String where) {
        int all = 0;
        int[] owners = new int[64];
        for (int unit = 0; unit < 300; unit++) {
            if (Games.isThere(game, unit)) {
                all++;
                int tile = game.unit(unit, 2);
                int owner = 1 << game.unit(unit, 0);
                Check.holds("one owner on a tile, " + where, owners[tile] == 0 || owners[tile] == owner);
                owners[tile] = owner;
                int city = game.tile(tile, 3);
                Check.holds("in its owner's city, " + where,
                    city == EmpireTurns.NONE || 1 << game.city(city, 0) == owner);
                Check.holds("not on SEA, " + where, game.tile(tile, 0) != EmpireTurns.SEA);
                Check.holds("health, " + where, game.unit(unit, 3) >= 1 && game.unit(unit, 3) <= 10);
                Check.holds("moves, " + where, game.unit(unit, 4) >= 0 && game.unit(unit, 4) <= 4);
                Check.holds("job, " + where, game.unit(unit, 5) >= 0 && game.unit(unit, 5) <= 2);
            }
        }
        int on = 0;
        for (int tile = 0; tile < 64; tile++) {
            on += game.unitsOn(tile);
            Check.holds("at most 4 on a tile, " + where, game.unitsOn(tile) <= 4);
        }
        Check.same("units on tiles, " + where, on, all);
        Check.holds("at most 40 units, " + where, all <= 40);
    }

    private static void checkCoins(EmpireTurns game, int player, String where) {
        int coins = 0;
        for (int what = 0; what < 8; what++) {
            int amount = game.ledger(player, what);
            Check.holds("amount " + what + ", " + where, amount >= 0);
            coins += what < 4 ? amount : -amount;
        }
        Check.same("coins are what was got less what was given, " + where, game.player(player, 0), coins);
        Check.holds("coins, " + where, game.player(player, 0) >= 0);
        Check.holds("store of learning, " + where, game.player(player, 1) >= 0);
        int goal = game.player(player, 2);
        Check.holds("the goal is not known, " + where,
            goal == EmpireTurns.NONE || (game.player(player, 3) >> goal & 1) == 0);
    }

    private static void checkPlayersTogether(EmpireTurns game, String where) {
        int tributes = 0;
        int taken = 0;
        for (int player = 0; player < 4; player++) {
            tributes += game.ledger(player, 1) - game.ledger(player, 5);
            taken += game.ledger(player, 2) - game.ledger(player, 6);
            Check.holds("not at war with itself, " + where, !game.atWar(player, player));
        }
        Check.same("who pays and who is paid, " + where, tributes, 0);
        Check.same("who loses and who takes, " + where, taken, 0);
    }
}
