import java.util.ArrayList;
import java.util.Arrays;

/** An empire game by turns on 64 tiles; ../shared/DOC.md tells its rules as numbered promises. */
public final class EmpireTurns {
    public static final int NONE = -1;
    public static final int SEA = 0, PLAIN = 1, HILL = 2, FOREST = 3, DESERT = 4, RIVER = 5;
    public static final int SETTLER = 0, WORKER = 1, GUARD = 2, RIDER = 3, RAM = 4;
    public static final int TEMPLE = 5, GRANARY = 6, WALLS = 7, LIBRARY = 8, MARKET = 9;
    public static final int FARM = 1, MINE = 2, ROAD = 4;
    public static final int PEACE = 0, PASSAGE = 1, TRIBUTE = 2, CRAFT = 3;
    public static final int STANDS = 0, RUN_OUT = 1, BROKEN = 2, UNPAID = 3;

    private static final int SIDE = 8;
    private static final int TILES = 64;
    private static final int PLAYERS = 4;
    private static final int CRAFTS = 10;
    private static final int MOST_CITIES = 12;
    private static final int MOST_UNITS = 40;
    private static final int MOST_ON_TILE = 4;
    private static final int MOST_TREATIES = 40;
    private static final int MOST_TURNS = 20;
    private static final int MOST_TRIBUTE = 50;
    private static final int MOST_QUEUED = 6;
    private static final int MOST_WEIGHT = 9;
    private static final int ALL_PARTS = 100;
    private static final int FULL_HEALTH = 10;
    private static final int JOB_TURNS = 2;
    private static final int REACH = 2;
    private static final int PULL_REACH = 3;
    private static final int SUPPLY_REACH = 4;
    private static final int MOST_SIZE_BY_ALL = 3;

    private static final int FROM_TRADE = 0, BY_TRIBUTES = 1, BY_CITIES_TAKEN = 2, FORGIVEN = 3;
    private static final int UPKEEP = 4, FOR_TRIBUTES = 5, BY_CITIES_LOST = 6, FOR_HURRYING = 7;
    private static final int LEDGER_ROWS = 8;

    private static final int[] LAND_FOOD = {2, 2, 1, 1, 0, 3};
    private static final int[] LAND_WORK = {0, 1, 2, 2, 1, 0};
    private static final int[] LAND_TRADE = {2, 0, 0, 1, 1, 1};
    private static final int[] LAND_SHELTER = {10, 10, 15, 13, 10, 10};
    private static final int[] UNIT_MOVES = {2, 2, 2, 4, 2};
    private static final int[] UNIT_ATTACK = {0, 0, 2, 4, 6};
    private static final int[] UNIT_DEFENCE = {1, 1, 4, 2, 1};
    private static final int[] WORK_COST = {20, 15, 12, 18, 24, 14, 16, 20, 24, 24};
    private static final int[] WORK_CRAFT = {-1, -1, -1, 1, 3, -1, 0, 2, 4, 5};

    private final World world;
    private final Planner planner;
    private final Marches marches;
    private final TurnEnd turnEnd;
    private int turn;

    public EmpireTurns() {
        world = new World();
        planner = new Planner(world);
        marches = new Marches(world);
        turnEnd = new TurnEnd(world);
        turn = 0;
    }

    // ---- lands

    public int lay(int tile, int land) throws IllegalArgumentException, IllegalStateException {
        requireTile(tile);
        requireArgument(isBetween(land, SEA, RIVER));
        requireState(turn == 0 && world.cityOn(tile) == null && world.countOn(tile) == 0);
        int before = world.board.landOf(tile);
        put(world.board.land, tile, land);
        return before;
    }

    public int need(int craft, int other) throws IllegalArgumentException, IllegalStateException {
        requireArgument(isBetween(craft, 0, CRAFTS - 1) && isBetween(other, 0, craft - 1));
        requireState(turn == 0);
        int needed = at(world.needs, craft);
        boolean already = hasBit(needed, other);
        requireState(already || Integer.bitCount(needed) < 2);
        put(world.needs, craft, needed | 1 << other);
        return Integer.bitCount(at(world.needs, craft));
    }

    public int place(int player, int kind, int tile) throws IllegalArgumentException, IllegalStateException {
        Player owner = findPlayer(player);
        requireArgument(isBetween(kind, SETTLER, RAM));
        requireTile(tile);
        requireState(turn == 0 && world.board.landOf(tile) != SEA);
        requireState(!world.hasOthersOn(owner, tile) && world.hasRoomFor(tile));
        return world.addUnit(owner, kind, tile);
    }

    // ---- cities

    public int found(int unit) throws IndexOutOfBoundsException, IllegalStateException {
        Unit settler = findUnit(unit);
        requireState(settler.kind == SETTLER && settler.moves > 0);
        int holder = world.board.holderOf(settler.tile);
        requireState(holder == NONE || holder == settler.owner.number);
        requireState(!world.hasCityNear(settler.tile) && world.founded < MOST_CITIES);
        world.removeUnit(settler);
        return world.addCity(settler.owner, settler.tile);
    }

    public void order(int city, int food, int work, int trade)
            throws IndexOutOfBoundsException, IllegalArgumentException {
        City ordered = findCity(city);
        requireArgument(isBetween(food, 1, MOST_WEIGHT));
        requireArgument(isBetween(work, 1, MOST_WEIGHT));
        requireArgument(isBetween(trade, 1, MOST_WEIGHT));
        ordered.foodWeight = food;
        ordered.workWeight = work;
        ordered.tradeWeight = trade;
    }

    public int queue(int city, int work)
            throws IndexOutOfBoundsException, IllegalArgumentException, IllegalStateException {
        City builder = findCity(city);
        requireArgument(isBetween(work, SETTLER, MARKET));
        requireState(builder.queued < MOST_QUEUED);
        put(builder.works, builder.queued, work);
        builder.queued++;
        return builder.queued;
    }

    public int unqueue(int city, int place) throws IndexOutOfBoundsException, IllegalArgumentException {
        City builder = findCity(city);
        requireArgument(isBetween(place, 0, builder.queued - 1));
        return builder.takeWork(place);
    }

    public int hurry(int city) throws IndexOutOfBoundsException, IllegalStateException {
        City builder = findCity(city);
        int first = builder.firstWork();
        requireState(first != NONE);
        int lacking = at(WORK_COST, first) - builder.workStore;
        requireState(lacking > 0 && builder.owner.coins >= 2 * lacking);
        builder.owner.give(FOR_HURRYING, 2 * lacking);
        builder.workStore += lacking;
        return 2 * lacking;
    }

    // ---- crafts and learning

    public void learn(int player, int craft) throws IllegalArgumentException, IllegalStateException {
        Player learner = findPlayer(player);
        requireArgument(isBetween(craft, NONE, CRAFTS - 1));
        requireState(craft == NONE || world.canLearn(learner, craft));
        learner.goal = craft;
    }

    public int setParts(int player, int parts) throws IllegalArgumentException {
        Player learner = findPlayer(player);
        requireArgument(isBetween(parts, 0, ALL_PARTS));
        int before = learner.parts;
        learner.parts = parts;
        return before;
    }

    // ---- treaties

    public void offer(int from, int to, int kind, int turns, int what) throws IllegalArgumentException {
        findPlayer(from);
        findPlayer(to);
        requireArgument(from != to && isBetween(kind, PEACE, CRAFT));
        requireArgument(isBetween(turns, 1, MOST_TURNS) && isOffered(kind, what));
        world.pacts.putOffer(from, to, new Treaty(kind, from, to, turns, what));
    }

    public int agree(int from, int to)
            throws IllegalArgumentException, IndexOutOfBoundsException, IllegalStateException {
        Player giver = findPlayer(from);
        Player taker = findPlayer(to);
        Treaty offered = world.pacts.offerOf(from, to);
        if (offered == null) {
            throw new IndexOutOfBoundsException("no such offer");
        }
        if (offered.kind == CRAFT) {
            requireState(giver.knows(offered.what) && world.canLearn(taker, offered.what));
            taker.getCraft(offered.what);
            world.pacts.dropOffer(from, to);
            return NONE;
        }
        requireState(world.pacts.canStand(offered));
        world.pacts.dropOffer(from, to);
        world.pacts.treaties.add(offered);
        return world.pacts.treaties.size() - 1;
    }

    public int cancel(int player, int treaty)
            throws IllegalArgumentException, IndexOutOfBoundsException, IllegalStateException {
        Player breaker = findPlayer(player);
        Treaty broken = findTreaty(treaty);
        requireState(broken.state == STANDS && (broken.from == player || broken.to == player));
        broken.end(BROKEN, player);
        breaker.breaches++;
        return breaker.breaches;
    }

    public int treaty(int treaty, int what) throws IndexOutOfBoundsException, IllegalArgumentException {
        Treaty asked = findTreaty(treaty);
        switch (what) {
            case 0: return asked.kind;
            case 1: return asked.from;
            case 2: return asked.to;
            case 3: return asked.turns;
            case 4: return asked.state;
            case 5: return asked.breaker;
            default: throw new IllegalArgumentException("a treaty tells 0 to 5");
        }
    }

    public boolean atWar(int one, int other) throws IllegalArgumentException {
        findPlayer(one);
        findPlayer(other);
        return world.pacts.areAtWar(one, other);
    }

    // ---- units

    public boolean step(int unit, int dx, int dy)
            throws IndexOutOfBoundsException, IllegalArgumentException, IllegalStateException {
        Unit mover = findUnit(unit);
        requireArgument(isBetween(dx, -1, 1) && isBetween(dy, -1, 1) && (dx != 0 || dy != 0));
        int target = tileBeside(mover.tile, dx, dy);
        requireState(target != NONE && world.board.landOf(target) != SEA);
        requireState(mover.moves >= world.board.stepCost(target));
        Unit foe = marches.strongestFoe(mover.owner, target);
        if (foe != null) {
            requireState(mover.attack() > 0);
            return marches.fight(mover, foe);
        }
        if (marches.isHostileCity(mover.owner, target)) {
            requireState(mover.attack() > 0);
        } else {
            requireState(marches.mayEnter(mover, target));
        }
        mover.moves -= world.board.stepCost(target);
        marches.goTo(mover, target);
        return true;
    }

    public void work(int unit, int what)
            throws IndexOutOfBoundsException, IllegalArgumentException, IllegalStateException {
        Unit worker = findUnit(unit);
        requireArgument(what == FARM || what == MINE || what == ROAD);
        requireState(worker.kind == WORKER && worker.moves > 0);
        requireState(world.board.holderOf(worker.tile) == worker.owner.number);
        requireState(world.board.canBeMade(worker.tile, what));
        worker.job = what;
        worker.jobTurns = JOB_TURNS;
        worker.moves = 0;
    }

    public int unit(int unit, int what) throws IndexOutOfBoundsException, IllegalArgumentException {
        Unit asked = findUnit(unit);
        switch (what) {
            case 0: return asked.owner.number;
            case 1: return asked.kind;
            case 2: return asked.tile;
            case 3: return asked.health;
            case 4: return asked.moves;
            case 5: return asked.jobTurns;
            default: throw new IllegalArgumentException("a unit tells 0 to 5");
        }
    }

    public int unitsOn(int tile) throws IllegalArgumentException {
        requireTile(tile);
        return world.countOn(tile);
    }

    // ---- turns and what is asked

    public int endTurn() {
        planner.planUpTo(MOST_CITIES, false);
        turnEnd.run();
        turn++;
        return turn;
    }

    public long plan(int city) throws IndexOutOfBoundsException {
        City asked = findCity(city);
        planner.planUpTo(asked.number, false);
        return asked.plan;
    }

    public long planByAll(int city) throws IndexOutOfBoundsException, IllegalStateException {
        City asked = findCity(city);
        requireState(world.greatestSizeUpTo(asked.number) <= MOST_SIZE_BY_ALL);
        planner.planUpTo(asked.number, true);
        return asked.plan;
    }

    public int city(int city, int what) throws IndexOutOfBoundsException, IllegalArgumentException {
        City asked = findCity(city);
        if (isBetween(what, 8, 10)) {
            planner.planUpTo(asked.number, false);
        }
        switch (what) {
            case 0: return asked.owner.number;
            case 1: return asked.tile;
            case 2: return asked.size;
            case 3: return asked.foodStore;
            case 4: return asked.workStore;
            case 5: return asked.culture;
            case 6: return asked.buildings;
            case 7: return asked.firstWork();
            case 8: return asked.foodGot;
            case 9: return asked.workGot;
            case 10: return asked.tradeGot;
            default: throw new IllegalArgumentException("a city tells 0 to 10");
        }
    }

    public int tile(int tile, int what) throws IllegalArgumentException {
        requireTile(tile);
        switch (what) {
            case 0: return world.board.landOf(tile);
            case 1: return at(world.board.made, tile);
            case 2: return world.board.holderOf(tile);
            case 3: return world.cityNumberOn(tile);
            default: throw new IllegalArgumentException("a tile tells 0 to 3");
        }
    }

    public int pull(int player, int tile) throws IllegalArgumentException {
        Player puller = findPlayer(player);
        requireTile(tile);
        return world.pullOf(puller, tile);
    }

    public int player(int player, int what) throws IllegalArgumentException {
        Player asked = findPlayer(player);
        switch (what) {
            case 0: return asked.coins;
            case 1: return asked.learning;
            case 2: return asked.goal;
            case 3: return asked.crafts;
            case 4: return asked.breaches;
            case 5: return world.scoreOf(asked);
            case 6: return world.countCities(asked);
            default: throw new IllegalArgumentException("a player tells 0 to 6");
        }
    }

    public int ledger(int player, int what) throws IllegalArgumentException {
        Player asked = findPlayer(player);
        requireArgument(isBetween(what, 0, LEDGER_ROWS - 1));
        return at(asked.ledgerRows, what);
    }

    // ---- what is looked up, or thrown for

    private Player findPlayer(int number) {
        Player found = world.playerAt(number);
        if (found == null) {
            throw new IllegalArgumentException("players are 0 to 3");
        }
        return found;
    }

    private City findCity(int number) {
        for (int i = 0; i < world.cities.size(); i++) {
            City city = world.cities.get(i);
            if (city.number == number) {
                return city;
            }
        }
        throw new IndexOutOfBoundsException("no such city");
    }

    private Unit findUnit(int number) {
        for (int i = 0; i < world.units.size(); i++) {
            Unit unit = world.units.get(i);
            if (unit.number == number) {
                return unit;
            }
        }
        throw new IndexOutOfBoundsException("no such unit");
    }

    private Treaty findTreaty(int number) {
        if (!isBetween(number, 0, world.pacts.treaties.size() - 1)) {
            throw new IndexOutOfBoundsException("no such treaty");
        }
        return world.pacts.treaties.get(number);
    }

    private static boolean isOffered(int kind, int what) {
        if (kind == TRIBUTE) {
            return isBetween(what, 1, MOST_TRIBUTE);
        }
        if (kind == CRAFT) {
            return isBetween(what, 0, CRAFTS - 1);
        }
        return what == 0;
    }

    private static void requireTile(int tile) {
        requireArgument(isBetween(tile, 0, TILES - 1));
    }

    private static void requireArgument(boolean holds) {
        if (!holds) {
            throw new IllegalArgumentException("an argument is out of range");
        }
    }

    private static void requireState(boolean holds) {
        if (!holds) {
            throw new IllegalStateException("this cannot be done now");
        }
    }

    // ---- small helps for numbers and rows

    private static boolean isBetween(int value, int least, int most) {
        return value >= least && value <= most;
    }

    private static boolean hasBit(int bits, int bit) {
        return (bits >> bit & 1) != 0;
    }

    /** Rows are read and written through at and put, so that no index can leave them. */
    private static int at(int[] row, int place) {
        return place >= 0 && place < row.length ? row[place] : NONE;
    }

    private static void put(int[] row, int place, int value) {
        if (place >= 0 && place < row.length) {
            row[place] = value;
        }
    }

    private static int distance(int one, int other) {
        int across = Math.abs(one % SIDE - other % SIDE);
        int down = Math.abs(one / SIDE - other / SIDE);
        return Math.max(across, down);
    }

    private static int tileBeside(int tile, int dx, int dy) {
        int x = tile % SIDE + dx;
        int y = tile / SIDE + dy;
        return isBetween(x, 0, SIDE - 1) && isBetween(y, 0, SIDE - 1) ? SIDE * y + x : NONE;
    }

    /** The tiles: their lands, what workers made there, and within whose borders they are. */
    private static final class Board {
        final int[] land = new int[TILES];
        final int[] made = new int[TILES];
        final int[] holder = new int[TILES];

        Board() {
            Arrays.fill(land, PLAIN);
            Arrays.fill(holder, NONE);
        }

        int landOf(int tile) {
            return at(land, tile);
        }

        int holderOf(int tile) {
            return at(holder, tile);
        }

        boolean hasMade(int tile, int what) {
            return (at(made, tile) & what) != 0;
        }

        int foodOf(int tile) {
            return at(LAND_FOOD, landOf(tile)) + (hasMade(tile, FARM) ? 1 : 0);
        }

        int workOf(int tile) {
            return at(LAND_WORK, landOf(tile)) + (hasMade(tile, MINE) ? 1 : 0);
        }

        int tradeOf(int tile) {
            return at(LAND_TRADE, landOf(tile));
        }

        int stepCost(int tile) {
            int here = landOf(tile);
            boolean easy = here == PLAIN || here == DESERT || here == RIVER;
            return easy || hasMade(tile, ROAD) ? 1 : 2;
        }

        boolean canBeMade(int tile, int what) {
            int here = landOf(tile);
            if (hasMade(tile, what) || here == SEA) {
                return false;
            }
            if (what == FARM) {
                return here == PLAIN || here == DESERT || here == RIVER;
            }
            return what == ROAD || here == HILL || here == DESERT;
        }

        int countHeld(int player) {
            int held = 0;
            for (int tile = 0; tile < TILES; tile++) {
                if (holderOf(tile) == player) {
                    held++;
                }
            }
            return held;
        }
    }

    private static final class Player {
        final int number;
        int coins = 0;
        int learning = 0;
        int goal = NONE;
        int crafts = 0;
        int parts = 50;
        int breaches = 0;
        final int[] ledgerRows = new int[LEDGER_ROWS];

        Player(int number) {
            this.number = number;
        }

        boolean knows(int craft) {
            return hasBit(crafts, craft);
        }

        void getCraft(int craft) {
            crafts |= 1 << craft;
            if (goal == craft) {
                goal = NONE;
            }
        }

        void gain(int row, int amount) {
            coins += amount;
            put(ledgerRows, row, at(ledgerRows, row) + amount);
        }

        void give(int row, int amount) {
            coins -= amount;
            put(ledgerRows, row, at(ledgerRows, row) + amount);
        }
    }

    private static final class City {
        final int number;
        final int tile;
        Player owner;
        int size = 1;
        int foodStore = 0;
        int workStore = 0;
        int culture = 5;
        int buildings = 0;
        final int[] works = new int[MOST_QUEUED];
        int queued = 0;
        int foodWeight = 1;
        int workWeight = 1;
        int tradeWeight = 1;
        // The planner writes these four; they hold only until the next change of anything.
        long plan = 0;
        int foodGot = 0;
        int workGot = 0;
        int tradeGot = 0;

        City(int number, Player owner, int tile) {
            this.number = number;
            this.owner = owner;
            this.tile = tile;
        }

        int firstWork() {
            return queued > 0 ? at(works, 0) : NONE;
        }

        int takeWork(int place) {
            int taken = at(works, place);
            for (int i = place; i < queued - 1; i++) {
                put(works, i, at(works, i + 1));
            }
            queued--;
            return taken;
        }

        boolean has(int building) {
            return hasBit(buildings, building);
        }

        int foodNeeded() {
            return 2 * size;
        }
    }

    private static final class Unit {
        final int number;
        final Player owner;
        final int kind;
        int tile;
        int health = FULL_HEALTH;
        int moves;
        int job = 0;
        int jobTurns = 0;

        Unit(int number, Player owner, int kind, int tile) {
            this.number = number;
            this.owner = owner;
            this.kind = kind;
            this.tile = tile;
            this.moves = at(UNIT_MOVES, kind);
        }

        int attack() {
            return at(UNIT_ATTACK, kind);
        }

        int defence() {
            return at(UNIT_DEFENCE, kind);
        }

        void dropJob() {
            job = 0;
            jobTurns = 0;
        }
    }

    /** An offer, and the treaty that it becomes when it is agreed. */
    private static final class Treaty {
        final int kind;
        final int from;
        final int to;
        final int what;
        int turns;
        int state = STANDS;
        int breaker = NONE;

        Treaty(int kind, int from, int to, int turns, int what) {
            this.kind = kind;
            this.from = from;
            this.to = to;
            this.turns = turns;
            this.what = what;
        }

        boolean standsBetween(int one, int other) {
            boolean ofBoth = from == one && to == other || from == other && to == one;
            return ofBoth && state == STANDS;
        }

        void end(int why, int who) {
            state = why;
            breaker = who;
        }

        void loseTurn() {
            if (state == STANDS) {
                turns--;
                if (turns <= 0) {
                    end(RUN_OUT, NONE);
                }
            }
        }
    }

    /** The offers that wait and the treaties that were agreed. */
    private static final class Pacts {
        final ArrayList<Treaty> treaties = new ArrayList<Treaty>();
        private final Treaty[] offers = new Treaty[PLAYERS * PLAYERS];

        Treaty offerOf(int from, int to) {
            int place = PLAYERS * from + to;
            return isBetween(place, 0, offers.length - 1) ? offers[place] : null;
        }

        void putOffer(int from, int to, Treaty offered) {
            int place = PLAYERS * from + to;
            if (isBetween(place, 0, offers.length - 1)) {
                offers[place] = offered;
            }
        }

        void dropOffer(int from, int to) {
            putOffer(from, to, null);
        }

        boolean stands(int kind, int one, int other) {
            for (int i = 0; i < treaties.size(); i++) {
                Treaty treaty = treaties.get(i);
                if (treaty.kind == kind && treaty.standsBetween(one, other)) {
                    return true;
                }
            }
            return false;
        }

        boolean areAtWar(int one, int other) {
            return one != other && !stands(PEACE, one, other);
        }

        boolean canStand(Treaty offered) {
            if (treaties.size() >= MOST_TREATIES) {
                return false;
            }
            if (offered.kind == TRIBUTE) {
                return true;
            }
            boolean inPeace = stands(PEACE, offered.from, offered.to);
            if (offered.kind == PEACE) {
                return !inPeace;
            }
            return inPeace && !stands(PASSAGE, offered.from, offered.to);
        }

        void loseTurns() {
            for (int i = 0; i < treaties.size(); i++) {
                treaties.get(i).loseTurn();
            }
        }
    }

    /** All that is there; the lists of cities and units hold the living ones by rising numbers. */
    private static final class World {
        final Board board = new Board();
        final Pacts pacts = new Pacts();
        final ArrayList<Player> players = new ArrayList<Player>();
        final ArrayList<City> cities = new ArrayList<City>();
        final ArrayList<Unit> units = new ArrayList<Unit>();
        final int[] needs = new int[CRAFTS];
        int founded = 0;
        int nextUnit = 0;

        World() {
            for (int i = 0; i < PLAYERS; i++) {
                players.add(new Player(i));
            }
        }

        Player playerAt(int number) {
            return isBetween(number, 0, players.size() - 1) ? players.get(number) : null;
        }

        boolean areAtWar(Player one, Player other) {
            return pacts.areAtWar(one.number, other.number);
        }

        boolean canLearn(Player player, int craft) {
            int lacking = at(needs, craft) & ~player.crafts;
            return !player.knows(craft) && lacking == 0;
        }

        City cityOn(int tile) {
            for (int i = 0; i < cities.size(); i++) {
                City city = cities.get(i);
                if (city.tile == tile) {
                    return city;
                }
            }
            return null;
        }

        int cityNumberOn(int tile) {
            City city = cityOn(tile);
            return city == null ? NONE : city.number;
        }

        boolean hasCityNear(int tile) {
            for (int i = 0; i < cities.size(); i++) {
                if (distance(cities.get(i).tile, tile) < 3) {
                    return true;
                }
            }
            return false;
        }

        int addCity(Player owner, int tile) {
            int number = founded;
            founded++;
            cities.add(new City(number, owner, tile));
            put(board.holder, tile, owner.number);
            return number;
        }

        void removeCity(City gone) {
            for (int i = cities.size() - 1; i >= 0; i--) {
                if (cities.get(i) == gone) {
                    cities.remove(i);
                }
            }
        }

        int countCities(Player owner) {
            int count = 0;
            for (int i = 0; i < cities.size(); i++) {
                if (cities.get(i).owner == owner) {
                    count++;
                }
            }
            return count;
        }

        int greatestSizeUpTo(int last) {
            int greatest = 0;
            for (int i = 0; i < cities.size(); i++) {
                City city = cities.get(i);
                if (city.number <= last) {
                    greatest = Math.max(greatest, city.size);
                }
            }
            return greatest;
        }

        int pullOf(Player player, int tile) {
            int together = 0;
            for (int i = 0; i < cities.size(); i++) {
                City city = cities.get(i);
                int away = distance(city.tile, tile);
                if (city.owner == player && isBetween(away, 0, PULL_REACH)) {
                    together += 4 * city.culture / ((1 + away) * (1 + away));
                }
            }
            return together;
        }

        int scoreOf(Player player) {
            int sizes = 0;
            for (int i = 0; i < cities.size(); i++) {
                City city = cities.get(i);
                if (city.owner == player) {
                    sizes += city.size;
                }
            }
            int won = 3 * sizes + 5 * Integer.bitCount(player.crafts);
            return won + board.countHeld(player.number) + player.coins / 20 - 10 * player.breaches;
        }

        int countOn(int tile) {
            int count = 0;
            for (int i = 0; i < units.size(); i++) {
                if (units.get(i).tile == tile) {
                    count++;
                }
            }
            return count;
        }

        int countUnits(Player owner) {
            int count = 0;
            for (int i = 0; i < units.size(); i++) {
                if (units.get(i).owner == owner) {
                    count++;
                }
            }
            return count;
        }

        boolean hasRoomFor(int tile) {
            return units.size() < MOST_UNITS && countOn(tile) < MOST_ON_TILE;
        }

        boolean hasOthersOn(Player player, int tile) {
            City city = cityOn(tile);
            if (city != null && city.owner != player) {
                return true;
            }
            for (int i = 0; i < units.size(); i++) {
                Unit unit = units.get(i);
                if (unit.tile == tile && unit.owner != player) {
                    return true;
                }
            }
            return false;
        }

        int addUnit(Player owner, int kind, int tile) {
            int number = nextUnit;
            nextUnit++;
            units.add(new Unit(number, owner, kind, tile));
            return number;
        }

        void removeUnit(Unit gone) {
            for (int i = units.size() - 1; i >= 0; i--) {
                if (units.get(i) == gone) {
                    units.remove(i);
                }
            }
        }

        boolean removeLastUnit(Player owner) {
            for (int i = units.size() - 1; i >= 0; i--) {
                if (units.get(i).owner == owner) {
                    units.remove(i);
                    return true;
                }
            }
            return false;
        }

        long tilesOfFoes(Player player) {
            long tiles = 0;
            for (int i = 0; i < units.size(); i++) {
                Unit unit = units.get(i);
                if (areAtWar(unit.owner, player)) {
                    tiles |= 1L << unit.tile;
                }
            }
            return tiles;
        }

        long tilesOfCities() {
            long tiles = 0;
            for (int i = 0; i < cities.size(); i++) {
                tiles |= 1L << cities.get(i).tile;
            }
            return tiles;
        }
    }

    /**
     * Finds plans. If no set has enough food, those with the most food count: so either way a plan is
     * the worthiest set with at least so much food, where that is never more than can be had.
     */
    private static final class Planner {
        private static final int MOST_OPEN = 24;
        private static final int MOST_TILE_FOOD = 4;
        private static final int MOST_SETS = 2024;

        private final World world;
        private final int[] open = new int[MOST_OPEN];
        private final int[] picked = new int[MOST_SIZE_BY_ALL];
        private final long[] best = new long[(MOST_OPEN + 1) * (MOST_OPEN * MOST_TILE_FOOD + 1)];
        private int opened = 0;
        private int width = 1;

        Planner(World world) {
            this.world = world;
        }

        void planUpTo(int last, boolean byAll) {
            long taken = world.tilesOfCities();
            for (int i = 0; i < world.cities.size(); i++) {
                City city = world.cities.get(i);
                if (city.number <= last) {
                    openTiles(city, taken | world.tilesOfFoes(city.owner));
                    city.plan = byAll ? bestOfAll(city) : bestPlan(city);
                    taken |= city.plan;
                    gather(city);
                }
            }
        }

        private void openTiles(City city, long closed) {
            opened = 0;
            for (int tile = 0; tile < TILES; tile++) {
                boolean near = distance(tile, city.tile) <= REACH;
                boolean free = (closed >> tile & 1) == 0;
                if (near && free && world.board.holderOf(tile) == city.owner.number) {
                    put(open, opened, tile);
                    opened++;
                }
            }
        }

        private void gather(City city) {
            Board board = world.board;
            city.foodGot = Math.max(2, board.foodOf(city.tile));
            city.workGot = Math.max(1, board.workOf(city.tile));
            city.tradeGot = Math.max(1, board.tradeOf(city.tile));
            for (int tile = 0; tile < TILES; tile++) {
                if ((city.plan >> tile & 1) != 0) {
                    city.foodGot += board.foodOf(tile);
                    city.workGot += board.workOf(tile);
                    city.tradeGot += board.tradeOf(tile);
                }
            }
        }

        private int worthOf(City city, int tile) {
            Board board = world.board;
            return city.foodWeight * board.foodOf(tile) + city.workWeight * board.workOf(tile)
                + city.tradeWeight * board.tradeOf(tile);
        }

        private int foodLacking(City city) {
            return city.foodNeeded() - Math.max(2, world.board.foodOf(city.tile));
        }

        private int mostFood(int count) {
            int most = 0;
            int left = count;
            for (int food = MOST_TILE_FOOD; food > 0; food--) {
                for (int i = 0; i < opened && left > 0; i++) {
                    if (world.board.foodOf(at(open, i)) == food) {
                        most += food;
                        left--;
                    }
                }
            }
            return most;
        }

        /**
         * best holds, for so many tiles with at least so much food, the worth of the best set above 24
         * bits for its tiles, the lowest tile at the highest bit: so the greatest number is the set with
         * the greatest worth, and of several the one whose tiles come first.
         */
        private long bestPlan(City city) {
            int count = Math.min(city.size, opened);
            int asked = Math.max(0, Math.min(foodLacking(city), mostFood(count)));
            width = asked + 1;
            for (int i = 0; i < (count + 1) * width; i++) {
                putBest(i, -1);
            }
            putBest(0, 0);
            for (int i = 0; i < opened; i++) {
                int tile = at(open, i);
                long value = ((long) worthOf(city, tile) << MOST_OPEN) + (1L << MOST_OPEN - 1 - i);
                addTile(count, world.board.foodOf(tile), value);
            }
            return tilesOf(bestAt(count * width + asked));
        }

        /** Counts go down, so that a set of one tile less has not got this tile yet. */
        private void addTile(int count, int food, long value) {
            for (int tiles = count; tiles > 0; tiles--) {
                for (int asked = 0; asked < width; asked++) {
                    long before = bestAt((tiles - 1) * width + Math.max(0, asked - food));
                    int place = tiles * width + asked;
                    if (before >= 0 && before + value > bestAt(place)) {
                        putBest(place, before + value);
                    }
                }
            }
        }

        private long bestAt(int place) {
            return place >= 0 && place < best.length ? best[place] : -1;
        }

        private void putBest(int place, long value) {
            if (place >= 0 && place < best.length) {
                best[place] = value;
            }
        }

        private long tilesOf(long value) {
            long tiles = 0;
            for (int i = 0; i < opened; i++) {
                if ((value >> MOST_OPEN - 1 - i & 1) != 0) {
                    tiles |= 1L << at(open, i);
                }
            }
            return tiles;
        }

        /** The sets come by rising tiles, so a later one has to be better to be taken. */
        private long bestOfAll(City city) {
            int count = Math.min(Math.min(city.size, opened), MOST_SIZE_BY_ALL);
            for (int i = 0; i < count; i++) {
                put(picked, i, i);
            }
            int lacking = foodLacking(city);
            int bestFood = NONE;
            int bestWorth = NONE;
            long bestTiles = 0;
            boolean more = true;
            for (int tried = 0; tried < MOST_SETS && more; tried++) {
                int food = Math.min(pickedFood(count), Math.max(0, lacking));
                int worth = pickedWorth(city, count);
                if (food > bestFood || food == bestFood && worth > bestWorth) {
                    bestFood = food;
                    bestWorth = worth;
                    bestTiles = pickedTiles(count);
                }
                more = pickNext(count);
            }
            return bestTiles;
        }

        private int pickedFood(int count) {
            int food = 0;
            for (int i = 0; i < count; i++) {
                food += world.board.foodOf(at(open, at(picked, i)));
            }
            return food;
        }

        private int pickedWorth(City city, int count) {
            int worth = 0;
            for (int i = 0; i < count; i++) {
                worth += worthOf(city, at(open, at(picked, i)));
            }
            return worth;
        }

        private long pickedTiles(int count) {
            long tiles = 0;
            for (int i = 0; i < count; i++) {
                tiles |= 1L << at(open, at(picked, i));
            }
            return tiles;
        }

        private boolean pickNext(int count) {
            for (int i = count - 1; i >= 0; i--) {
                int next = at(picked, i) + 1;
                if (next <= opened - (count - i)) {
                    for (int j = i; j < count; j++) {
                        put(picked, j, next + j - i);
                    }
                    return true;
                }
            }
            return false;
        }
    }

    /** What bars a step, and what comes of a step, a fight and the taking of a city. */
    private static final class Marches {
        private final World world;

        Marches(World world) {
            this.world = world;
        }

        Unit strongestFoe(Player player, int tile) {
            Unit strongest = null;
            for (int i = 0; i < world.units.size(); i++) {
                Unit unit = world.units.get(i);
                if (unit.tile == tile && world.areAtWar(unit.owner, player)
                        && (strongest == null || toughness(unit) > toughness(strongest))) {
                    strongest = unit;
                }
            }
            return strongest;
        }

        private static int toughness(Unit unit) {
            return unit.defence() * unit.health;
        }

        boolean isHostileCity(Player player, int tile) {
            City city = world.cityOn(tile);
            return city != null && world.areAtWar(city.owner, player);
        }

        boolean mayEnter(Unit mover, int target) {
            return world.countOn(target) < MOST_ON_TILE
                && !world.hasOthersOn(mover.owner, target)
                && !isBarredByBorders(mover.owner, target)
                && !isBarredByZones(mover, target);
        }

        private boolean isBarredByBorders(Player player, int tile) {
            int holder = world.board.holderOf(tile);
            return holder != NONE && holder != player.number
                && !world.pacts.areAtWar(holder, player.number)
                && !world.pacts.stands(PASSAGE, holder, player.number);
        }

        private boolean isBarredByZones(Unit mover, int target) {
            return isInZone(mover.owner, mover.tile) && isInZone(mover.owner, target)
                && !hasOwnOn(mover.owner, target);
        }

        private boolean isInZone(Player player, int tile) {
            for (int i = 0; i < world.units.size(); i++) {
                Unit unit = world.units.get(i);
                if (unit.attack() > 0 && distance(unit.tile, tile) == 1
                        && world.areAtWar(unit.owner, player)) {
                    return true;
                }
            }
            return false;
        }

        private boolean hasOwnOn(Player player, int tile) {
            City city = world.cityOn(tile);
            if (city != null && city.owner == player) {
                return true;
            }
            for (int i = 0; i < world.units.size(); i++) {
                Unit unit = world.units.get(i);
                if (unit.tile == tile && unit.owner == player) {
                    return true;
                }
            }
            return false;
        }

        boolean fight(Unit first, Unit foe) {
            int target = foe.tile;
            int attack = 10 * first.attack() * first.health;
            int defence = toughness(foe) * shelterOn(target);
            first.moves = 0;
            first.health -= loss(defence, attack);
            foe.health -= loss(attack, defence);
            if (foe.health <= 0) {
                world.removeUnit(foe);
            }
            if (first.health <= 0) {
                world.removeUnit(first);
                return false;
            }
            if (world.countOn(target) > 0) {
                return false;
            }
            goTo(first, target);
            return true;
        }

        private static int loss(int other, int own) {
            int both = other + own;
            return both > 0 ? 1 + 9 * other / both : 1;
        }

        private int shelterOn(int tile) {
            int shelter = at(LAND_SHELTER, world.board.landOf(tile));
            City city = world.cityOn(tile);
            if (city == null) {
                return shelter;
            }
            return shelter + 3 + (city.has(WALLS) ? 8 : 0);
        }

        void goTo(Unit mover, int target) {
            mover.tile = target;
            mover.dropJob();
            City city = world.cityOn(target);
            if (city != null && city.owner != mover.owner) {
                takeCity(city, mover.owner);
            }
        }

        private void takeCity(City city, Player taker) {
            Player loser = city.owner;
            int shares = 2 * world.countCities(loser);
            city.size--;
            if (city.size <= 0) {
                world.removeCity(city);
                return;
            }
            city.owner = taker;
            city.queued = 0;
            city.workStore = 0;
            put(world.board.holder, city.tile, taker.number);
            int spoils = shares > 0 ? loser.coins / shares : 0;
            loser.give(BY_CITIES_LOST, spoils);
            taker.gain(BY_CITIES_TAKEN, spoils);
            captureCraft(loser, taker);
        }

        private void captureCraft(Player loser, Player taker) {
            for (int craft = 0; craft < CRAFTS; craft++) {
                if (loser.knows(craft) && world.canLearn(taker, craft)) {
                    taker.getCraft(craft);
                    return;
                }
            }
        }
    }

    /** What the end of a turn does, once all cities are planned, in the order that the document gives. */
    private static final class TurnEnd {
        private final World world;

        TurnEnd(World world) {
            this.world = world;
        }

        void run() {
            endCities();
            endPlayers();
            payTributes();
            world.pacts.loseTurns();
            spreadBorders();
            doJobs();
            restUnits();
        }

        private void endCities() {
            for (int i = 0; i < world.cities.size(); i++) {
                City city = world.cities.get(i);
                feed(city);
                build(city);
                share(city);
                city.culture += city.has(TEMPLE) ? 3 : 1;
            }
        }

        private static void feed(City city) {
            city.foodStore += city.foodGot - city.foodNeeded();
            if (city.foodStore < 0) {
                city.foodStore = 0;
                city.size = Math.max(1, city.size - 1);
            }
            int asked = 10 + 5 * city.size;
            if (city.foodStore >= asked) {
                city.foodStore -= asked;
                city.foodStore += city.has(GRANARY) ? asked / 2 : 0;
                city.size++;
            }
        }

        private void build(City city) {
            city.workStore += city.workGot;
            int first = city.firstWork();
            if (first == NONE || city.workStore < at(WORK_COST, first) || !canMake(city, first)) {
                return;
            }
            city.workStore -= at(WORK_COST, first);
            city.takeWork(0);
            if (first >= TEMPLE) {
                city.buildings |= 1 << first;
                return;
            }
            world.addUnit(city.owner, first, city.tile);
            if (first == SETTLER) {
                city.size--;
            }
        }

        private boolean canMake(City city, int work) {
            int craft = at(WORK_CRAFT, work);
            if (craft != NONE && !city.owner.knows(craft)) {
                return false;
            }
            if (work >= TEMPLE) {
                return !city.has(work);
            }
            return world.hasRoomFor(city.tile) && (work != SETTLER || city.size >= 2);
        }

        private static void share(City city) {
            int learning = city.tradeGot * city.owner.parts / ALL_PARTS;
            int coins = city.tradeGot - learning;
            city.owner.learning += learning + (city.has(LIBRARY) ? learning / 2 : 0);
            city.owner.gain(FROM_TRADE, coins + (city.has(MARKET) ? coins / 2 : 0));
        }

        private void endPlayers() {
            for (int i = 0; i < world.players.size(); i++) {
                Player player = world.players.get(i);
                reachGoal(player);
                payUpkeep(player);
            }
        }

        private static void reachGoal(Player player) {
            int cost = 12 + 6 * player.goal;
            if (player.goal != NONE && player.learning >= cost) {
                player.learning -= cost;
                player.getCraft(player.goal);
            }
        }

        private void payUpkeep(Player player) {
            int upkeep = upkeepOf(player);
            boolean left = true;
            for (int i = 0; i < MOST_UNITS && left && player.coins < upkeep; i++) {
                left = world.removeLastUnit(player);
                upkeep -= left ? 1 : 0;
            }
            if (player.coins < upkeep) {
                player.gain(FORGIVEN, upkeep - player.coins);
            }
            player.give(UPKEEP, upkeep);
        }

        private int upkeepOf(Player player) {
            int buildings = 0;
            for (int i = 0; i < world.cities.size(); i++) {
                City city = world.cities.get(i);
                if (city.owner == player) {
                    buildings += Integer.bitCount(city.buildings);
                }
            }
            return buildings + Math.max(0, world.countUnits(player) - 2 * world.countCities(player));
        }

        private void payTributes() {
            for (int i = 0; i < world.pacts.treaties.size(); i++) {
                Treaty treaty = world.pacts.treaties.get(i);
                if (treaty.kind == TRIBUTE && treaty.state == STANDS) {
                    payTribute(treaty);
                }
            }
        }

        private void payTribute(Treaty tribute) {
            Player payer = world.playerAt(tribute.from);
            Player getter = world.playerAt(tribute.to);
            if (payer == null || getter == null) {
                return;
            }
            int paid = Math.min(payer.coins, tribute.what);
            payer.give(FOR_TRIBUTES, paid);
            getter.gain(BY_TRIBUTES, paid);
            if (paid < tribute.what) {
                tribute.end(UNPAID, payer.number);
                payer.breaches++;
            }
        }

        private void spreadBorders() {
            for (int tile = 0; tile < TILES; tile++) {
                City city = world.cityOn(tile);
                put(world.board.holder, tile, city != null ? city.owner.number : strongestOn(tile));
            }
        }

        private int strongestOn(int tile) {
            int most = mostPull(tile);
            int alike = 0;
            int strongest = NONE;
            for (int i = 0; i < world.players.size(); i++) {
                if (most > 0 && world.pullOf(world.players.get(i), tile) == most) {
                    if (i == world.board.holderOf(tile)) {
                        return i;
                    }
                    alike++;
                    strongest = i;
                }
            }
            return alike == 1 ? strongest : NONE;
        }

        private int mostPull(int tile) {
            int most = 0;
            for (int i = 0; i < world.players.size(); i++) {
                most = Math.max(most, world.pullOf(world.players.get(i), tile));
            }
            return most;
        }

        private void doJobs() {
            for (int i = 0; i < world.units.size(); i++) {
                Unit unit = world.units.get(i);
                if (unit.jobTurns > 0) {
                    unit.jobTurns--;
                    if (unit.jobTurns == 0) {
                        put(world.board.made, unit.tile, at(world.board.made, unit.tile) | unit.job);
                        unit.dropJob();
                    }
                }
            }
        }

        private void restUnits() {
            for (int i = world.units.size() - 1; i >= 0; i--) {
                Unit unit = world.units.get(i);
                unit.moves = at(UNIT_MOVES, unit.kind);
                unit.health = Math.min(FULL_HEALTH, unit.health + (isSupplied(unit) ? 1 : -1));
                if (unit.health <= 0) {
                    world.units.remove(i);
                }
            }
        }

        private boolean isSupplied(Unit unit) {
            for (int tile = 0; tile < TILES; tile++) {
                if (world.board.holderOf(tile) == unit.owner.number
                        && distance(tile, unit.tile) <= SUPPLY_REACH) {
                    return true;
                }
            }
            return false;
        }
    }
}
