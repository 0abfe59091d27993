import java.util.ArrayList;
import java.util.List;

/** Promises 22 and 23: plan and planByAll, beside plans that the test finds by trying all sets itself. */
public final class PlansTest {
    private static final int[] FOOD = {2, 2, 1, 1, 0, 3};
    private static final int[] WORK = {0, 1, 2, 2, 1, 0};
    private static final int[] TRADE = {2, 0, 0, 1, 1, 1};
    private static final int MOST_SIZE = 6;
    private static final int MOST_UNIT = 300;

    private final EmpireTurns game = new EmpireTurns();
    private final int[][] orders = new int[12][];
    private final Dice dice;
    private List<Integer> open;
    private int lacking;
    private int[] order;
    private long bestSet;
    private int bestFood;
    private int bestWorth;

    private PlansTest(int seed) {
        dice = new Dice(seed);
        for (int i = 0; i < orders.length; i++) {
            orders[i] = new int[] {1, 1, 1};
        }
    }

    public static void main(String[] args) {
        refused();
        enoughFood();
        mostFood();
        whatCanBeWorked();
        sizesByAll();
        for (int seed = 1; seed <= 60; seed++) {
            new PlansTest(seed).play();
        }
        Check.finish("PlansTest");
    }

    private static void refused() {
        EmpireTurns game = new EmpireTurns();
        Games.city(game, 0, 19);
        Games.city(game, 1, 22);
        game.step(game.place(0, EmpireTurns.RIDER, 21), 1, 0);
        int[] none = {-1, 1, 2, 12, Integer.MIN_VALUE};
        for (int city : none) {
            Check.nothingThere("plan " + city, game, () -> game.plan(city));
            Check.nothingThere("planByAll " + city, game, () -> game.planByAll(city));
        }
        Check.same("no tile at first", game.plan(0), 0);
        Check.same("no tile at first", game.planByAll(0), 0);
    }

    /** A city of the size 2 gets 2 food of its own tile and needs 4. */
    private static void enoughFood() {
        EmpireTurns game = Games.sizeTwo();
        Check.planned(game, "PLAIN 19 and HILL 11", 0, 9, 29);
        game.order(0, 1, 9, 1);
        Check.planned(game, "two HILLs of 19", 0, 9, 10);
        game.order(0, 1, 1, 9);
        Check.planned(game, "DESERT 10 and PLAIN 3, as two DESERTs have no food", 0, 11, 29);
        game.order(0, 1, 1, 1);
        Check.planned(game, "HILLs and PLAIN are 3 each", 0, 9, 10);
    }

    private static void mostFood() {
        EmpireTurns game = new EmpireTurns();
        Games.layAll(game, EmpireTurns.DESERT);
        game.lay(17, EmpireTurns.RIVER);
        game.lay(18, EmpireTurns.RIVER);
        game.lay(3, EmpireTurns.HILL);
        Games.city(game, 0, 19);
        Games.city(game, 1, 63);
        int one = game.place(1, EmpireTurns.GUARD, 33);
        int other = game.place(1, EmpireTurns.GUARD, 32);
        game.order(0, 9, 1, 1);
        Games.endTurns(game, 6);
        Check.same("size", game.city(0, 2), 2);
        Check.planned(game, "RIVERs", 0, 17, 18);
        game.step(one, 0, -1);
        game.step(one, 0, -1);
        game.step(other, 1, -1);
        Check.planned(game, "RIVER and HILL", 0, 3, 18);
        game.order(0, 1, 1, 9);
        Check.planned(game, "RIVER and DESERT", 0, 1, 18);
        game.endTurn();
        game.step(one, 1, 0);
        Check.planned(game, "the other RIVER", 0, 1, 17);
        game.step(other, 0, -1);
        Check.planned(game, "HILL, as it has more food than two DESERTs", 0, 1, 3);
        Check.same("which is not enough", game.city(0, 8), 3);
        game.endTurn();
        Check.same("the store of 1, and 3 food less 4", game.city(0, 3), 0);
        Check.same("is not below 0", game.city(0, 2), 2);
    }

    private static void whatCanBeWorked() {
        EmpireTurns game = new EmpireTurns();
        Games.city(game, 0, 0);
        Games.city(game, 0, 3);
        int rider = game.place(1, EmpireTurns.RIDER, 25);
        Games.city(game, 1, 31);
        game.endTurn();
        Check.planned(game, "the lowest", 0, 1);
        Check.planned(game, "in no earlier plan", 1, 2);
        game.step(rider, 0, -1);
        game.step(rider, 0, -1);
        game.step(rider, 0, -1);
        Check.planned(game, "no foe's tile", 0, 2);
        Check.planned(game, "so the next one", 1, 4);
        Check.same("its trade", game.city(1, 10), 1);
        Games.agree(game, 0, 1, EmpireTurns.PEACE, 5, 0);
        Check.planned(game, "in peace that does not matter", 0, 1);
        EmpireTurns near = new EmpireTurns();
        Games.city(near, 0, 19);
        Games.city(near, 1, 16);
        near.endTurn();
        Check.same("nobody's", near.tile(2, 2), EmpireTurns.NONE);
        Check.same("its own", near.tile(3, 2), 0);
        Check.planned(near, "1, 2, 9 and 17 are not its own", 0, 3);
        Check.planned(near, "0 is its own", 1, 0);
    }

    private static void sizesByAll() {
        EmpireTurns game = new EmpireTurns();
        Games.layAll(game, EmpireTurns.DESERT);
        for (int tile = 0; tile < 64; tile++) {
            if (tile % 8 == 3 || tile % 8 == 4) {
                game.lay(tile, EmpireTurns.RIVER);
            }
        }
        Games.city(game, 0, 0);
        Games.city(game, 1, 4);
        Games.city(game, 0, 63);
        Games.endTurns(game, 11);
        Check.same("size", game.city(1, 2), 3);
        for (int city = 0; city < 3; city++) {
            Check.same("size 3", game.planByAll(city), game.plan(city));
        }
        Games.endTurns(game, 20);
        Check.holds("size", game.city(1, 2) > 3 && game.city(0, 2) <= 3 && game.city(2, 2) <= 3);
        Check.same("an earlier one", game.planByAll(0), game.plan(0));
        Check.badState("a large one", game, () -> game.planByAll(1));
        Check.badState("one behind a large one", game, () -> game.planByAll(2));
        Check.nothingThere("no city", game, () -> game.planByAll(3));
    }

    // ---- plans in games that dice make

    private void play() {
        for (int tile = 0; tile < 64; tile++) {
            game.lay(tile, dice.below(6));
        }
        for (int i = 0; i < 40; i++) {
            settle(dice.below(3), dice.below(64));
        }
        for (int turn = 0; turn < 40; turn++) {
            reorder();
            moveAll();
            checkPlans();
            game.endTurn();
        }
    }

    private void settle(int player, int tile) {
        if (game.tile(tile, 0) == EmpireTurns.SEA || game.tile(tile, 2) != EmpireTurns.NONE) {
            return;
        }
        try {
            int settler = game.place(player, EmpireTurns.SETTLER, tile);
            game.found(settler);
            game.place(player, EmpireTurns.WORKER, tile);
            game.place(player, EmpireTurns.RIDER, tile);
        } catch (IllegalStateException e) {
            // Too near to another city: the settler stays what it is.
            return;
        }
    }

    private void reorder() {
        int city = dice.below(12);
        int[] weights = {dice.between(1, 9), dice.between(1, 9), dice.between(1, 9)};
        try {
            game.order(city, weights[0], weights[1], weights[2]);
            orders[city] = weights;
        } catch (IndexOutOfBoundsException e) {
            return;
        }
    }

    private void moveAll() {
        for (int unit = 0; unit < MOST_UNIT; unit++) {
            for (int tried = 0; tried < 3; tried++) {
                try {
                    game.step(unit, dice.between(-1, 1), dice.between(-1, 1));
                    game.work(unit, 1 << dice.below(3));
                } catch (IllegalStateException | IllegalArgumentException e) {
                    continue;
                } catch (IndexOutOfBoundsException e) {
                    break;
                }
            }
        }
    }

    private boolean isThere(int city) {
        try {
            game.city(city, 0);
            return true;
        } catch (IndexOutOfBoundsException e) {
            return false;
        }
    }

    private void checkPlans() {
        long taken = 0;
        int greatest = 0;
        for (int city = 0; city < 12; city++) {
            if (!isThere(city)) {
                continue;
            }
            greatest = Math.max(greatest, game.city(city, 2));
            long due = greatest <= MOST_SIZE ? search(city, taken) : game.plan(city);
            Check.same("plan", game.plan(city), due);
            taken |= due;
            checkGot(city, due);
            if (greatest <= 3) {
                Check.same("planByAll", game.planByAll(city), due);
            } else {
                int large = city;
                Check.badState("planByAll", game, () -> game.planByAll(large));
            }
        }
    }

    private void checkGot(int city, long plan) {
        int tile = game.city(city, 1);
        int food = ownFood(tile);
        int work = Math.max(1, workOf(tile));
        int trade = Math.max(1, TRADE[game.tile(tile, 0)]);
        for (int i = 0; i < 64; i++) {
            if ((plan >> i & 1) != 0) {
                food += foodOf(i);
                work += workOf(i);
                trade += TRADE[game.tile(i, 0)];
            }
        }
        Check.same("food", game.city(city, 8), food);
        Check.same("work", game.city(city, 9), work);
        Check.same("trade", game.city(city, 10), trade);
    }

    private int foodOf(int tile) {
        return FOOD[game.tile(tile, 0)] + ((game.tile(tile, 1) & EmpireTurns.FARM) != 0 ? 1 : 0);
    }

    private int workOf(int tile) {
        return WORK[game.tile(tile, 0)] + ((game.tile(tile, 1) & EmpireTurns.MINE) != 0 ? 1 : 0);
    }

    private int ownFood(int tile) {
        return Math.max(2, foodOf(tile));
    }

    private long search(int city, long taken) {
        open = new ArrayList<>();
        int owner = game.city(city, 0);
        int at = game.city(city, 1);
        for (int tile = 0; tile < 64; tile++) {
            int away = Math.max(Math.abs(tile % 8 - at % 8), Math.abs(tile / 8 - at / 8));
            if (away >= 1 && away <= 2 && game.tile(tile, 2) == owner && game.tile(tile, 3) < 0
                    && (taken >> tile & 1) == 0 && !hasFoe(owner, tile)) {
                open.add(tile);
            }
        }
        lacking = 2 * game.city(city, 2) - ownFood(at);
        order = orders[city];
        bestFood = -1;
        bestWorth = -1;
        trySets(0, Math.min(open.size(), game.city(city, 2)), 0, 0, 0);
        return bestSet;
    }

    private boolean hasFoe(int owner, int tile) {
        if (game.unitsOn(tile) == 0) {
            return false;
        }
        for (int unit = 0; unit < MOST_UNIT; unit++) {
            if (Games.isThere(game, unit) && game.unit(unit, 2) == tile) {
                return game.atWar(owner, game.unit(unit, 0));
            }
        }
        return false;
    }

    /** The sets come by rising tiles, so that the first of the best ones is kept. */
    private void trySets(int next, int more, long set, int food, int worth) {
        if (more == 0) {
            boolean enough = food >= lacking;
            boolean bestEnough = bestFood >= lacking;
            boolean better = enough != bestEnough ? enough
                : enough ? worth > bestWorth : food > bestFood || food == bestFood && worth > bestWorth;
            if (better || bestFood < 0) {
                bestSet = set;
                bestFood = food;
                bestWorth = worth;
            }
            return;
        }
        for (int i = next; i + more <= open.size(); i++) {
            int tile = open.get(i);
            int value = order[0] * foodOf(tile) + order[1] * workOf(tile) + order[2] * TRADE[game.tile(tile, 0)];
            trySets(i + 1, more - 1, set | 1L << tile, food + foodOf(tile), worth + value);
        }
    }
}
