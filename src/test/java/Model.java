import java.util.ArrayList;
import java.util.Arrays;
import java.util.List;
import java.util.Map;
import java.util.TreeMap;
import java.util.TreeSet;

/**
 * The document's game a second time, with the Java library and without a thought of speed: ModelTest lets
 * both play the same calls. It is written from the document and shares no line with the class.
 */
public final class Model {
    /** Cost, craft, moves, attack and defence, from SETTLER to MARKET. */
    private static final int[][] WORKS = {
        {20, -1, 2, 0, 1}, {15, -1, 2, 0, 1}, {12, -1, 2, 2, 4}, {18, 1, 4, 4, 2}, {24, 3, 2, 6, 1},
        {14, -1}, {16, 0}, {20, 2}, {24, 4}, {24, 5},
    };
    private static final int COST = 0, CRAFT = 1, MOVES = 2, ATTACK = 3, DEFENCE = 4;
    /** Food, work and trade, from SEA to RIVER. */
    private static final int[][] LANDS = {{2, 0, 2}, {2, 1, 0}, {1, 2, 0}, {1, 2, 1}, {0, 1, 1}, {3, 0, 1}};

    static final class Town {
        int owner;
        int tile;
        int size = 1;
        int food;
        int work;
        int culture = 5;
        int[] order = {1, 1, 1};
        TreeSet<Integer> plan = new TreeSet<>();
        final TreeSet<Integer> buildings = new TreeSet<>();
        final List<Integer> queue = new ArrayList<>();
    }

    static final class Troop {
        int owner;
        int kind;
        int tile;
        int health = 10;
        int moves;
        int job;
        int jobLeft;
    }

    static final class Pact {
        int kind;
        int from;
        int to;
        int left;
        int what;
        int why;
        int breaker = -1;
    }

    final TreeMap<Integer, Town> towns = new TreeMap<>();
    final TreeMap<Integer, Troop> troops = new TreeMap<>();
    final List<Pact> pacts = new ArrayList<>();
    private final Map<String, Pact> offers = new TreeMap<>();
    private final int[] land = new int[64];
    private final int[] made = new int[64];
    private final int[] holder = new int[64];
    private final List<TreeSet<Integer>> needs = new ArrayList<>();
    private final List<TreeSet<Integer>> known = new ArrayList<>();
    private final int[] store = new int[4];
    private final int[] goal = {-1, -1, -1, -1};
    private final int[] parts = {50, 50, 50, 50};
    private final int[] breaches = new int[4];
    private final int[][] books = new int[4][8];
    private int founded;
    private int numbered;
    private int turn;

    public Model() {
        Arrays.fill(land, 1);
        Arrays.fill(holder, -1);
        for (int i = 0; i < 10; i++) {
            needs.add(new TreeSet<>());
        }
        for (int i = 0; i < 4; i++) {
            known.add(new TreeSet<>());
        }
    }

    // ---- what is asked first

    private static void argument(int value, int least, int most) {
        if (value < least || value > most) {
            throw new IllegalArgumentException();
        }
    }

    private static void illegalIf(boolean barred) {
        if (barred) {
            throw new IllegalStateException();
        }
    }

    private static <T> T there(T found) {
        if (found == null) {
            throw new IndexOutOfBoundsException();
        }
        return found;
    }

    private static int away(int one, int other) {
        return Math.max(Math.abs(one % 8 - other % 8), Math.abs(one / 8 - other / 8));
    }

    private Integer townOn(int tile) {
        for (int key : towns.keySet()) {
            if (towns.get(key).tile == tile) {
                return key;
            }
        }
        return null;
    }

    private List<Integer> troopsOn(int tile) {
        List<Integer> keys = new ArrayList<>(troops.keySet());
        keys.removeIf(key -> troops.get(key).tile != tile);
        return keys;
    }

    int coins(int player) {
        int[] book = books[player];
        return book[0] + book[1] + book[2] + book[3] - book[4] - book[5] - book[6] - book[7];
    }

    // ---- lands

    public int lay(int tile, int kind) {
        argument(tile, 0, 63);
        argument(kind, 0, 5);
        illegalIf(turn != 0 || townOn(tile) != null || !troopsOn(tile).isEmpty());
        int before = land[tile];
        land[tile] = kind;
        return before;
    }

    public int need(int craft, int other) {
        argument(craft, 0, 9);
        argument(other, 0, craft - 1);
        illegalIf(turn != 0 || needs.get(craft).size() == 2 && !needs.get(craft).contains(other));
        needs.get(craft).add(other);
        return needs.get(craft).size();
    }

    public int place(int player, int kind, int tile) {
        argument(player, 0, 3);
        argument(kind, 0, 4);
        argument(tile, 0, 63);
        illegalIf(turn != 0 || land[tile] == 0 || troopsOn(tile).size() == 4 || troops.size() == 40);
        for (int key : troopsOn(tile)) {
            illegalIf(troops.get(key).owner != player);
        }
        illegalIf(townOn(tile) != null && towns.get(townOn(tile)).owner != player);
        return make(player, kind, tile);
    }

    private int make(int player, int kind, int tile) {
        Troop troop = new Troop();
        troop.owner = player;
        troop.kind = kind;
        troop.tile = tile;
        troop.moves = WORKS[kind][MOVES];
        troops.put(numbered, troop);
        return numbered++;
    }

    // ---- cities

    public int found(int unit) {
        Troop settler = there(troops.get(unit));
        illegalIf(settler.kind != 0 || settler.moves == 0 || founded == 12);
        illegalIf(holder[settler.tile] != -1 && holder[settler.tile] != settler.owner);
        for (Town town : towns.values()) {
            illegalIf(away(town.tile, settler.tile) < 3);
        }
        Town town = new Town();
        town.owner = settler.owner;
        town.tile = settler.tile;
        holder[town.tile] = town.owner;
        troops.remove(unit);
        towns.put(founded, town);
        return founded++;
    }

    public void order(int city, int food, int work, int trade) {
        Town town = there(towns.get(city));
        int[] order = {food, work, trade};
        for (int weight : order) {
            argument(weight, 1, 9);
        }
        town.order = order;
    }

    public int queue(int city, int work) {
        Town town = there(towns.get(city));
        argument(work, 0, 9);
        illegalIf(town.queue.size() == 6);
        town.queue.add(work);
        return town.queue.size();
    }

    public int unqueue(int city, int place) {
        Town town = there(towns.get(city));
        argument(place, 0, town.queue.size() - 1);
        return town.queue.remove(place);
    }

    public int hurry(int city) {
        Town town = there(towns.get(city));
        illegalIf(town.queue.isEmpty());
        int cost = WORKS[town.queue.get(0)][COST];
        int price = 2 * (cost - town.work);
        illegalIf(price <= 0 || price > coins(town.owner));
        books[town.owner][7] += price;
        town.work = cost;
        return price;
    }

    // ---- crafts and learning

    private boolean learnable(int player, int craft) {
        return !known.get(player).contains(craft) && known.get(player).containsAll(needs.get(craft));
    }

    private void give(int player, int craft) {
        known.get(player).add(craft);
        if (goal[player] == craft) {
            goal[player] = -1;
        }
    }

    public void learn(int player, int craft) {
        argument(player, 0, 3);
        argument(craft, -1, 9);
        illegalIf(craft != -1 && !learnable(player, craft));
        goal[player] = craft;
    }

    public int setParts(int player, int part) {
        argument(player, 0, 3);
        argument(part, 0, 100);
        int before = parts[player];
        parts[player] = part;
        return before;
    }

    // ---- treaties

    public void offer(int from, int to, int kind, int turns, int what) {
        argument(from, 0, 3);
        argument(to, 0, 3);
        argument(from == to ? 1 : 0, 0, 0);
        argument(kind, 0, 3);
        argument(turns, 1, 20);
        int[][] ranges = {{0, 0}, {0, 0}, {1, 50}, {0, 9}};
        argument(what, ranges[kind][0], ranges[kind][1]);
        Pact pact = new Pact();
        pact.kind = kind;
        pact.from = from;
        pact.to = to;
        pact.left = turns;
        pact.what = what;
        offers.put(from + " to " + to, pact);
    }

    private boolean between(int kind, int one, int other) {
        for (Pact pact : pacts) {
            boolean both = pact.from == one && pact.to == other || pact.from == other && pact.to == one;
            if (both && pact.kind == kind && pact.why == 0) {
                return true;
            }
        }
        return false;
    }

    public int agree(int from, int to) {
        argument(from, 0, 3);
        argument(to, 0, 3);
        Pact pact = there(offers.get(from + " to " + to));
        if (pact.kind == 3) {
            illegalIf(!known.get(from).contains(pact.what) || !learnable(to, pact.what));
            offers.remove(from + " to " + to);
            give(to, pact.what);
            return -1;
        }
        illegalIf(pacts.size() == 40 || pact.kind < 2 && between(pact.kind, from, to));
        illegalIf(pact.kind == 1 && !between(0, from, to));
        offers.remove(from + " to " + to);
        pacts.add(pact);
        return pacts.size() - 1;
    }

    private Pact pactOf(int treaty) {
        return there(treaty >= 0 && treaty < pacts.size() ? pacts.get(treaty) : null);
    }

    public int cancel(int player, int treaty) {
        argument(player, 0, 3);
        Pact pact = pactOf(treaty);
        illegalIf(pact.why != 0 || pact.from != player && pact.to != player);
        pact.why = 2;
        pact.breaker = player;
        return ++breaches[player];
    }

    public int treaty(int treaty, int what) {
        Pact pact = pactOf(treaty);
        argument(what, 0, 5);
        return new int[] {pact.kind, pact.from, pact.to, pact.left, pact.why, pact.breaker}[what];
    }

    public boolean atWar(int one, int other) {
        argument(one, 0, 3);
        argument(other, 0, 3);
        return one != other && !between(0, one, other);
    }

    // ---- units

    public boolean step(int unit, int dx, int dy) {
        Troop troop = there(troops.get(unit));
        argument(dx, -1, 1);
        argument(dy, -1, 1);
        argument(dx * dx + dy * dy, 1, 2);
        int x = troop.tile % 8 + dx;
        int y = troop.tile / 8 + dy;
        illegalIf(x < 0 || y < 0 || x > 7 || y > 7);
        int to = 8 * y + x;
        illegalIf(land[to] == 0);
        int cost = (made[to] & 4) == 0 && (land[to] == 2 || land[to] == 3) ? 2 : 1;
        illegalIf(troop.moves < cost);
        Integer foe = bestFoe(troop.owner, to);
        Integer town = townOn(to);
        boolean hostile = town != null && atWar(troop.owner, towns.get(town).owner);
        illegalIf((foe != null || hostile) && WORKS[troop.kind][ATTACK] == 0);
        if (foe != null) {
            return fight(unit, foe, to);
        }
        if (!hostile) {
            illegalIf(troopsOn(to).size() == 4 || bordersBar(troop.owner, to) || zonesBar(troop, to));
            illegalIf(town != null && towns.get(town).owner != troop.owner);
            for (int key : troopsOn(to)) {
                illegalIf(troops.get(key).owner != troop.owner);
            }
        }
        troop.moves -= cost;
        arrive(troop, to);
        return true;
    }

    private Integer bestFoe(int player, int tile) {
        Integer best = null;
        int most = -1;
        for (int key : troopsOn(tile)) {
            Troop troop = troops.get(key);
            int worth = WORKS[troop.kind][DEFENCE] * troop.health;
            if (atWar(player, troop.owner) && worth > most) {
                most = worth;
                best = key;
            }
        }
        return best;
    }

    private boolean fight(int unit, int foe, int tile) {
        Troop one = troops.get(unit);
        Troop other = troops.get(foe);
        int strong = 10 * WORKS[one.kind][ATTACK] * one.health;
        int bonus = land[tile] == 2 ? 15 : land[tile] == 3 ? 13 : 10;
        if (townOn(tile) != null) {
            bonus += towns.get(townOn(tile)).buildings.contains(7) ? 11 : 3;
        }
        int firm = WORKS[other.kind][DEFENCE] * other.health * bonus;
        one.moves = 0;
        one.health -= 1 + 9 * firm / (strong + firm);
        other.health -= 1 + 9 * strong / (strong + firm);
        troops.values().removeIf(troop -> troop.health <= 0);
        boolean goes = one.health > 0 && troopsOn(tile).isEmpty();
        if (goes) {
            arrive(one, tile);
        } else {
            one.job = 0;
            one.jobLeft = 0;
        }
        return goes;
    }

    private boolean bordersBar(int player, int tile) {
        int other = holder[tile];
        return other != -1 && other != player && between(0, player, other) && !between(1, player, other);
    }

    private boolean zonesBar(Troop mover, int to) {
        boolean here = false;
        boolean there = false;
        for (Troop troop : troops.values()) {
            if (WORKS[troop.kind][ATTACK] > 0 && atWar(troop.owner, mover.owner)) {
                here |= away(troop.tile, mover.tile) == 1;
                there |= away(troop.tile, to) == 1;
            }
        }
        for (int key : troopsOn(to)) {
            there &= troops.get(key).owner != mover.owner;
        }
        Integer town = townOn(to);
        return here && there && (town == null || towns.get(town).owner != mover.owner);
    }

    private void arrive(Troop troop, int tile) {
        troop.tile = tile;
        troop.job = 0;
        troop.jobLeft = 0;
        Integer key = townOn(tile);
        if (key == null || towns.get(key).owner == troop.owner) {
            return;
        }
        Town town = towns.get(key);
        if (--town.size == 0) {
            towns.remove(key);
            return;
        }
        int loser = town.owner;
        int coins = coins(loser) / (2 * player(loser, 6));
        books[loser][6] += coins;
        books[troop.owner][2] += coins;
        town.owner = troop.owner;
        town.queue.clear();
        town.work = 0;
        holder[tile] = troop.owner;
        for (int craft : new TreeSet<>(known.get(loser))) {
            if (learnable(troop.owner, craft)) {
                give(troop.owner, craft);
                break;
            }
        }
    }

    public void work(int unit, int what) {
        Troop worker = there(troops.get(unit));
        argument(what, 1, 4);
        argument(what == 3 ? 1 : 0, 0, 0);
        illegalIf(worker.kind != 1 || worker.moves == 0 || holder[worker.tile] != worker.owner);
        illegalIf((made[worker.tile] & what) != 0);
        String allowed = what == 1 ? "145" : what == 2 ? "24" : "12345";
        illegalIf(what == 1 && land[worker.tile] == 0 || allowed.indexOf((char) ('0' + land[worker.tile])) < 0);
        worker.job = what;
        worker.jobLeft = 2;
        worker.moves = 0;
    }

    public int unit(int unit, int what) {
        Troop troop = there(troops.get(unit));
        argument(what, 0, 5);
        return new int[] {troop.owner, troop.kind, troop.tile, troop.health, troop.moves, troop.jobLeft}[what];
    }

    public int unitsOn(int tile) {
        argument(tile, 0, 63);
        return troopsOn(tile).size();
    }

    // ---- turns and what is asked

    public int endTurn() {
        planAll();
        List<int[]> gets = new ArrayList<>();
        for (Town town : towns.values()) {
            gets.add(gets(town));
        }
        int place = 0;
        for (Town town : towns.values()) {
            endTown(town, gets.get(place++));
        }
        for (int player = 0; player < 4; player++) {
            endPlayer(player);
        }
        for (Pact pact : pacts) {
            if (pact.kind == 2 && pact.why == 0) {
                pay(pact);
            }
        }
        for (Pact pact : pacts) {
            if (pact.why == 0 && --pact.left == 0) {
                pact.why = 1;
            }
        }
        borders();
        for (Troop troop : troops.values()) {
            if (troop.jobLeft > 0 && --troop.jobLeft == 0) {
                made[troop.tile] |= troop.job;
            }
        }
        for (Troop troop : troops.values()) {
            troop.health = Math.min(10, troop.health + (supplied(troop) ? 1 : -1));
            troop.moves = WORKS[troop.kind][MOVES];
        }
        troops.values().removeIf(troop -> troop.health == 0);
        return ++turn;
    }

    private void endTown(Town town, int[] gets) {
        town.food += gets[0] - 2 * town.size;
        if (town.food < 0) {
            town.food = 0;
            town.size = town.size == 1 ? 1 : town.size - 1;
        }
        int asked = 10 + 5 * town.size;
        if (town.food >= asked) {
            town.food = town.food - asked + (town.buildings.contains(6) ? asked / 2 : 0);
            town.size++;
        }
        town.work += gets[1];
        if (!town.queue.isEmpty() && town.work >= WORKS[town.queue.get(0)][COST] && makes(town)) {
            town.work -= WORKS[town.queue.remove(0)][COST];
        }
        int learning = gets[2] * parts[town.owner] / 100;
        int coins = gets[2] - learning;
        store[town.owner] += town.buildings.contains(8) ? learning + learning / 2 : learning;
        books[town.owner][0] += town.buildings.contains(9) ? coins + coins / 2 : coins;
        town.culture += 1 + (town.buildings.contains(5) ? 2 : 0);
    }

    private boolean makes(Town town) {
        int work = town.queue.get(0);
        int craft = WORKS[work][CRAFT];
        if (craft != -1 && !known.get(town.owner).contains(craft)) {
            return false;
        }
        if (work > 4) {
            return town.buildings.add(work);
        }
        if (troops.size() == 40 || troopsOn(town.tile).size() == 4 || work == 0 && town.size == 1) {
            return false;
        }
        make(town.owner, work, town.tile);
        town.size -= work == 0 ? 1 : 0;
        return true;
    }

    private void endPlayer(int player) {
        if (goal[player] != -1 && store[player] >= 12 + 6 * goal[player]) {
            store[player] -= 12 + 6 * goal[player];
            give(player, goal[player]);
        }
        int due = 0;
        int free = 0;
        for (Town town : towns.values()) {
            if (town.owner == player) {
                due += town.buildings.size();
                free += 2;
            }
        }
        TreeSet<Integer> mine = new TreeSet<>(troops.keySet());
        mine.removeIf(key -> troops.get(key).owner != player);
        due += Math.max(0, mine.size() - free);
        while (due > coins(player) && !mine.isEmpty()) {
            troops.remove(mine.pollLast());
            due--;
        }
        books[player][3] += Math.max(0, due - coins(player));
        books[player][4] += due;
    }

    private void pay(Pact pact) {
        int coins = Math.min(pact.what, coins(pact.from));
        books[pact.from][5] += coins;
        books[pact.to][1] += coins;
        if (coins < pact.what) {
            pact.why = 3;
            pact.breaker = pact.from;
            breaches[pact.from]++;
        }
    }

    private void borders() {
        for (int tile = 0; tile < 64; tile++) {
            int most = 0;
            TreeSet<Integer> strongest = new TreeSet<>();
            for (int player = 0; player < 4; player++) {
                int pull = pull(player, tile);
                if (pull > most) {
                    strongest.clear();
                    most = pull;
                }
                if (pull == most && pull > 0) {
                    strongest.add(player);
                }
            }
            if (townOn(tile) != null) {
                holder[tile] = towns.get(townOn(tile)).owner;
            } else if (strongest.size() == 1) {
                holder[tile] = strongest.first();
            } else if (!strongest.contains(holder[tile])) {
                holder[tile] = -1;
            }
        }
    }

    private boolean supplied(Troop troop) {
        for (int tile = 0; tile < 64; tile++) {
            if (holder[tile] == troop.owner && away(tile, troop.tile) <= 4) {
                return true;
            }
        }
        return false;
    }

    private int[] yields(int tile) {
        int[] yields = new int[3];
        for (int i = 0; i < 3; i++) {
            yields[i] = LANDS[land[tile]][i];
        }
        yields[0] += made[tile] & 1;
        yields[1] += made[tile] >> 1 & 1;
        return yields;
    }

    private int[] gets(Town town) {
        int[] gets = yields(town.tile);
        for (int i = 0; i < 3; i++) {
            gets[i] = Math.max(gets[i], i == 0 ? 2 : 1);
        }
        for (int tile : town.plan) {
            for (int i = 0; i < 3; i++) {
                gets[i] += yields(tile)[i];
            }
        }
        return gets;
    }

    private void planAll() {
        TreeSet<Integer> closed = new TreeSet<>();
        for (Town town : towns.values()) {
            closed.add(town.tile);
        }
        for (Town town : towns.values()) {
            List<Integer> open = new ArrayList<>();
            for (int tile = 0; tile < 64; tile++) {
                if (away(tile, town.tile) <= 2 && holder[tile] == town.owner && !closed.contains(tile)
                        && bestFoe(town.owner, tile) == null) {
                    open.add(tile);
                }
            }
            town.plan = plan(town, open);
            closed.addAll(town.plan);
        }
    }

    /** Fits food from below: for each food the best set with just that food, by tiles from the highest down. */
    private TreeSet<Integer> plan(Town town, List<Integer> open) {
        int count = Math.min(town.size, open.size());
        List<TreeMap<Integer, Choice>> rows = new ArrayList<>();
        for (int i = 0; i <= count; i++) {
            rows.add(new TreeMap<>());
        }
        rows.get(0).put(0, new Choice(0, new ArrayList<>()));
        for (int i = open.size() - 1; i >= 0; i--) {
            int[] yields = yields(open.get(i));
            int worth = 0;
            for (int k = 0; k < 3; k++) {
                worth += yields[k] * town.order[k];
            }
            for (int n = count; n > 0; n--) {
                for (Map.Entry<Integer, Choice> entry : rows.get(n - 1).entrySet()) {
                    List<Integer> tiles = new ArrayList<>();
                    tiles.add(open.get(i));
                    tiles.addAll(entry.getValue().tiles);
                    rows.get(n).merge(entry.getKey() + yields[0], new Choice(entry.getValue().worth + worth, tiles),
                        Choice::better);
                }
            }
        }
        int lacking = 2 * town.size - Math.max(2, yields(town.tile)[0]);
        TreeMap<Integer, Choice> last = rows.get(count);
        Choice best = last.lastEntry().getValue();
        for (Choice choice : last.tailMap(lacking).values()) {
            best = Choice.better(choice, best);
        }
        return new TreeSet<>(best.tiles);
    }

    private static final class Choice {
        final int worth;
        final List<Integer> tiles;

        Choice(int worth, List<Integer> tiles) {
            this.worth = worth;
            this.tiles = tiles;
        }

        static Choice better(Choice one, Choice other) {
            if (one.worth != other.worth) {
                return one.worth > other.worth ? one : other;
            }
            for (int i = 0; i < one.tiles.size(); i++) {
                int order = Integer.compare(one.tiles.get(i), other.tiles.get(i));
                if (order != 0) {
                    return order < 0 ? one : other;
                }
            }
            return one;
        }
    }

    public long plan(int city) {
        Town town = there(towns.get(city));
        planAll();
        long bits = 0;
        for (int tile : town.plan) {
            bits |= 1L << tile;
        }
        return bits;
    }

    public long planByAll(int city) {
        there(towns.get(city));
        for (Town town : towns.headMap(city, true).values()) {
            illegalIf(town.size > 3);
        }
        return plan(city);
    }

    public int city(int city, int what) {
        Town town = there(towns.get(city));
        argument(what, 0, 10);
        if (what >= 8) {
            planAll();
        }
        int bits = 0;
        for (int building : town.buildings) {
            bits += 1 << building;
        }
        int first = town.queue.isEmpty() ? -1 : town.queue.get(0);
        int[] gets = gets(town);
        return new int[] {town.owner, town.tile, town.size, town.food, town.work, town.culture, bits, first,
            gets[0], gets[1], gets[2]}[what];
    }

    public int tile(int tile, int what) {
        argument(tile, 0, 63);
        argument(what, 0, 3);
        Integer town = townOn(tile);
        return new int[] {land[tile], made[tile], holder[tile], town == null ? -1 : town}[what];
    }

    public int pull(int player, int tile) {
        argument(player, 0, 3);
        argument(tile, 0, 63);
        int pull = 0;
        for (Town town : towns.values()) {
            int far = away(town.tile, tile);
            pull += town.owner == player && far <= 3 ? 4 * town.culture / (1 + far) / (1 + far) : 0;
        }
        return pull;
    }

    public int player(int player, int what) {
        argument(player, 0, 3);
        argument(what, 0, 6);
        int bits = 0;
        for (int craft : known.get(player)) {
            bits += 1 << craft;
        }
        int cities = 0;
        int score = coins(player) / 20 + 5 * known.get(player).size() - 10 * breaches[player];
        for (Town town : towns.values()) {
            cities += town.owner == player ? 1 : 0;
            score += town.owner == player ? 3 * town.size : 0;
        }
        for (int who : holder) {
            score += who == player ? 1 : 0;
        }
        return new int[] {coins(player), store[player], goal[player], bits, breaches[player], score, cities}[what];
    }

    public int ledger(int player, int what) {
        argument(player, 0, 3);
        argument(what, 0, 7);
        return books[player][what];
    }
}
