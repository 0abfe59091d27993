import java.lang.reflect.Constructor;
import java.lang.reflect.Field;
import java.lang.reflect.Method;
import java.lang.reflect.Modifier;
import java.util.Map;
import java.util.TreeMap;

/** The face is the document's, no more and no less. */
public final class FaceTest {
    private static final String B = "IndexOutOfBoundsException", A = "IllegalArgumentException";
    private static final String S = "IllegalStateException";

    private static final String[] METHODS = {
        "int lay(int,int)" + A + S, "int need(int,int)" + A + S, "int place(int,int,int)" + A + S,
        "int found(int)" + B + S, "void order(int,int,int,int)" + B + A, "int queue(int,int)" + B + A + S,
        "int unqueue(int,int)" + B + A, "int hurry(int)" + B + S, "void learn(int,int)" + A + S,
        "int setParts(int,int)" + A, "void offer(int,int,int,int,int)" + A, "int agree(int,int)" + A + B + S,
        "int cancel(int,int)" + A + B + S, "int treaty(int,int)" + B + A, "boolean atWar(int,int)" + A,
        "boolean step(int,int,int)" + B + A + S, "void work(int,int)" + B + A + S, "int unit(int,int)" + B + A,
        "int unitsOn(int)" + A, "int endTurn()", "long plan(int)" + B, "long planByAll(int)" + B + S,
        "int city(int,int)" + B + A, "int tile(int,int)" + A, "int pull(int,int)" + A,
        "int player(int,int)" + A, "int ledger(int,int)" + A,
    };

    private static final String CONSTANTS = "NONE -1 SEA 0 PLAIN 1 HILL 2 FOREST 3 DESERT 4 RIVER 5 SETTLER 0 "
        + "WORKER 1 GUARD 2 RIDER 3 RAM 4 TEMPLE 5 GRANARY 6 WALLS 7 LIBRARY 8 MARKET 9 FARM 1 MINE 2 ROAD 4 "
        + "PEACE 0 PASSAGE 1 TRIBUTE 2 CRAFT 3 STANDS 0 RUN_OUT 1 BROKEN 2 UNPAID 3";

    public static void main(String[] args) throws Exception {
        methods();
        constants();
        rest();
        Check.finish("FaceTest");
    }

    private static void methods() {
        Map<String, Boolean> due = new TreeMap<>();
        for (String method : METHODS) {
            due.put(method, Boolean.FALSE);
        }
        for (Method method : EmpireTurns.class.getDeclaredMethods()) {
            if (!Modifier.isPrivate(method.getModifiers())) {
                Check.holds("public method " + method, Modifier.isPublic(method.getModifiers()));
                Check.holds("due: " + text(method), due.remove(text(method)) != null);
            } else {
                for (String face : METHODS) {
                    Check.holds("private name " + method, !face.contains(" " + method.getName() + "("));
                }
            }
        }
        Check.same("methods that are missing " + due.keySet(), due.size(), 0);
    }

    private static String text(Method method) {
        StringBuilder text = new StringBuilder();
        text.append(method.getReturnType().getSimpleName()).append(' ').append(method.getName()).append('(');
        String comma = "";
        for (Class<?> type : method.getParameterTypes()) {
            text.append(comma).append(type.getSimpleName());
            comma = ",";
        }
        text.append(')');
        for (Class<?> type : method.getExceptionTypes()) {
            text.append(type.getSimpleName());
        }
        return text.toString();
    }

    private static void constants() throws IllegalAccessException {
        String[] words = CONSTANTS.split(" ");
        Map<String, Integer> due = new TreeMap<>();
        for (int i = 0; i < words.length; i += 2) {
            due.put(words[i], Integer.parseInt(words[i + 1]));
        }
        for (Field field : EmpireTurns.class.getDeclaredFields()) {
            if (!Modifier.isPrivate(field.getModifiers())) {
                int mods = field.getModifiers();
                Check.holds("constant " + field, Modifier.isPublic(mods) && Modifier.isStatic(mods)
                    && Modifier.isFinal(mods) && field.getType() == int.class);
                Integer value = due.remove(field.getName());
                Check.holds("constant's value " + field, value != null && value == field.getInt(null));
            }
        }
        Check.same("constants that are missing " + due.keySet(), due.size(), 0);
    }

    private static void rest() {
        Check.holds("final", Modifier.isFinal(EmpireTurns.class.getModifiers()));
        Constructor<?>[] makers = EmpireTurns.class.getDeclaredConstructors();
        Check.same("constructors", makers.length, 1);
        Check.holds("constructor", Modifier.isPublic(makers[0].getModifiers())
            && makers[0].getParameterCount() == 0);
        for (Class<?> inside : EmpireTurns.class.getDeclaredClasses()) {
            Check.holds("inside " + inside, !Modifier.isPublic(inside.getModifiers())
                && !Modifier.isProtected(inside.getModifiers()) && Modifier.isStatic(inside.getModifiers()));
        }
    }
}
