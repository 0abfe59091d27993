import java.io.IOException;
import java.nio.file.Path;

/** Runs the tests that quote sentences of the document, whose path is the second argument. */
public final class EdgesTest {
    private static final Class<?>[] TESTS = {
        TermsEdges.class, LandsEdges.class, CityEdges.class, WorkEdges.class, PlanEdges.class, CraftEdges.class,
        BorderEdges.class, TreatyEdges.class, UnitEdges.class, FightEdges.class, TurnEdges.class,
    };

    /** A heading, and words under it that tell of no edge: what there is, what follows, or how it is named. */
    private static final String[][] WITHOUT_EDGE = {
        {"Terms", "Lands are laid; cities, works, crafts and treaties are ordered, units moved, turns ended; plans, "
            + "borders, ledgers and reasons can be asked for."},
        {"Turns", "At the end of a turn: (1)"},
        {"Turns", "Ahead of the calls lay, need, place the interface says: ---- lands."},
        {"Turns", "Ahead of the calls found, order, queue, unqueue, hurry the interface says: ---- cities."},
        {"Turns", "Ahead of the calls learn, setParts the interface says: ---- crafts and learning."},
        {"Turns", "Ahead of the calls offer, agree, cancel, treaty, atWar the interface says: ---- treaties."},
        {"Turns", "Ahead of the calls step, work, unit, unitsOn the interface says: ---- units."},
        {"Turns", "Ahead of the calls endTurn, plan, planByAll, city, tile, pull, player, ledger the interface says: "
            + "---- turns and what is asked."},
    };

    private EdgesTest() {
    }

    public static void main(String[] args) throws IOException, IllegalAccessException {
        Sentences sentences = new Sentences(Path.of(args.length > 1 ? args[1] : "../shared/DOC.md"));
        for (Class<?> tests : TESTS) {
            sentences.run(tests);
        }
        for (String[] words : WITHOUT_EDGE) {
            sentences.quote(words[0], words[1]);
        }
        for (String heading : sentences.headings()) {
            if (heading.startsWith("Promise ") || isTerm(heading)) {
                sentences.checkQuoted(heading);
            }
        }
        Check.finish("EdgesTest");
    }

    private static boolean isTerm(String heading) {
        String[] terms = {"Terms", "Lands", "Cities", "Works", "Crafts", "Borders", "Treaties", "Units", "Turns"};
        for (String term : terms) {
            if (heading.equals(term)) {
                return true;
            }
        }
        return false;
    }
}
