import java.lang.reflect.InvocationTargetException;
import java.lang.reflect.Method;
import java.util.ArrayList;
import java.util.List;
import java.util.Map;
import java.util.TreeMap;

/** The class and the Model play the same long games, and have to answer and to throw alike. */
public final class ModelTest {
    private static final int CALLS = 450;
    private static final int ASKED_EVERY = 9;
    private static final Map<String, Method> OF_CLASS = methods(EmpireTurns.class);
    private static final Map<String, Method> OF_MODEL = methods(Model.class);

    private final EmpireTurns game = new EmpireTurns();
    private final Model model = new Model();
    private final Dice dice;
    private final StringBuilder story = new StringBuilder();
    private final String name;
    private int wrong = 0;

    private ModelTest(int seed) {
        dice = new Dice(seed);
        name = "game " + seed;
    }

    /** Behind the two paths that every test gets, the first and the last game can be told. */
    public static void main(String[] args) {
        int first = args.length > 3 ? Integer.parseInt(args[2]) : 1;
        int last = args.length > 3 ? Integer.parseInt(args[3]) : 120;
        for (int seed = first; seed <= last; seed++) {
            ModelTest one = new ModelTest(seed);
            one.begin();
            one.play();
        }
        Check.finish("ModelTest");
    }

    private static Map<String, Method> methods(Class<?> kind) {
        Map<String, Method> methods = new TreeMap<>();
        for (Method method : kind.getDeclaredMethods()) {
            if (java.lang.reflect.Modifier.isPublic(method.getModifiers())) {
                methods.put(method.getName(), method);
            }
        }
        return methods;
    }

    private static Object answer(Object target, Method method, Object[] args) {
        try {
            return method.invoke(target, args);
        } catch (InvocationTargetException e) {
            return e.getCause().getClass();
        } catch (IllegalAccessException e) {
            throw new AssertionError(e);
        }
    }

    private void both(String method, Object... args) {
        Object got = answer(game, OF_CLASS.get(method), args);
        Object due = answer(model, OF_MODEL.get(method), args);
        boolean alike = got == null ? due == null : got.equals(due);
        String call = method + java.util.Arrays.toString(args);
        if (!alike && wrong == 0) {
            wrong++;
            Check.holds(name + ": " + call + " got " + got + ", due is " + due + story, false);
        } else if (alike) {
            Check.holds(call, true);
        }
    }

    private void tell(String method, Object... args) {
        story.append('\n').append(method).append(java.util.Arrays.toString(args));
        both(method, args);
    }

    private void begin() {
        int sea = dice.below(3);
        int plain = dice.below(6);
        for (int tile = 0; tile < 64; tile++) {
            tell("lay", tile, dice.below(10) < sea ? 0 : dice.below(10) < plain ? 1 : dice.between(1, 5));
        }
        for (int i = dice.below(8); i > 0; i--) {
            tell("need", dice.between(0, 9), dice.between(0, 5));
        }
        int players = dice.between(2, 4);
        for (int i = dice.between(8, 40); i > 0; i--) {
            tell("place", dice.below(players), dice.below(3) == 0 ? 0 : dice.between(0, 4), dice.below(64));
        }
        for (int unit = 0; unit < 40; unit++) {
            if (dice.below(4) > 0) {
                tell("found", unit);
            }
        }
    }

    private void play() {
        int warlike = dice.below(10);
        for (int i = 0; i < CALLS && wrong == 0; i++) {
            int kind = dice.below(24);
            if (kind < 9) {
                march(warlike);
            } else if (kind < 13) {
                tell("endTurn");
            } else if (kind < 17) {
                orderCity();
            } else if (kind < 19) {
                tell("work", troop(), 1 << dice.below(3));
            } else if (kind < 21) {
                learn();
            } else if (kind < 23) {
                bargain();
            } else {
                tell("found", troop());
            }
            if (i % ASKED_EVERY == 0) {
                askAll();
            }
        }
        askAll();
    }

    private int troop() {
        List<Integer> keys = new ArrayList<>(model.troops.keySet());
        return keys.isEmpty() || dice.below(30) == 0 ? dice.between(-1, 60) : keys.get(dice.below(keys.size()));
    }

    private int town() {
        List<Integer> keys = new ArrayList<>(model.towns.keySet());
        return keys.isEmpty() || dice.below(30) == 0 ? dice.between(-1, 12) : keys.get(dice.below(keys.size()));
    }

    /** Half of the steps go towards a town, so that there is something to fight for. */
    private void march(int warlike) {
        int unit = troop();
        int dx = dice.between(-1, 1);
        int dy = dice.between(-1, 1);
        Model.Troop troop = model.troops.get(unit);
        Model.Town town = model.towns.get(town());
        if (troop != null && town != null && dice.below(10) < warlike) {
            dx = Integer.compare(town.tile % 8, troop.tile % 8);
            dy = Integer.compare(town.tile / 8, troop.tile / 8);
        }
        tell("step", unit, dx, dy);
    }

    private void orderCity() {
        int kind = dice.below(10);
        if (kind < 6) {
            tell("queue", town(), dice.between(0, 9));
        } else if (kind < 7) {
            tell("unqueue", town(), dice.between(-1, 3));
        } else if (kind < 9) {
            tell("hurry", town());
        } else {
            tell("order", town(), dice.between(1, 9), dice.between(1, 9), dice.between(1, 10));
        }
    }

    private void learn() {
        if (dice.below(3) == 0) {
            tell("setParts", dice.below(4), 25 * dice.below(5) + dice.below(2));
        } else {
            tell("learn", dice.below(4), dice.between(-1, 9));
        }
    }

    private void bargain() {
        int from = dice.below(4);
        int to = dice.below(4);
        int kind = dice.below(4);
        if (dice.below(6) == 0) {
            tell("cancel", from, dice.below(model.pacts.size() + 1));
        } else {
            tell("offer", from, to, kind, dice.between(1, 20), kind == 2 ? dice.between(1, 50)
                : kind == 3 ? dice.below(10) : 0);
            if (dice.below(4) > 0) {
                tell("agree", from, to);
            }
        }
    }

    private void askAll() {
        for (int tile = 0; tile < 64; tile++) {
            askRow("tile", tile, 3);
            both("unitsOn", tile);
            both("pull", dice.below(4), tile);
        }
        for (int player = 0; player < 4; player++) {
            askRow("player", player, 6);
            askRow("ledger", player, 7);
            both("atWar", player, dice.below(4));
        }
        for (int city = 0; city < 12; city++) {
            askRow("city", city, model.towns.containsKey(city) ? 10 : 0);
            both("plan", city);
            both("planByAll", city);
        }
        for (int treaty = 0; treaty <= model.pacts.size(); treaty++) {
            askRow("treaty", treaty, treaty < model.pacts.size() ? 5 : 0);
        }
        for (int unit = 0; unit < 100; unit++) {
            askRow("unit", unit, model.troops.containsKey(unit) ? 5 : 0);
        }
    }

    private void askRow(String method, int number, int last) {
        for (int what = 0; what <= last; what++) {
            both(method, number, what);
        }
    }
}
