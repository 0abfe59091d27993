/** Promises 17 to 20 without fights: step, work, unit and unitsOn. */
public final class UnitsTest {
    public static void main(String[] args) {
        step();
        stepRefused();
        costs();
        zones();
        zonesOpen();
        borders();
        peace();
        work();
        workRefused();
        jobs();
        unit();
        Check.finish("UnitsTest");
    }

    private static void step() {
        EmpireTurns game = new EmpireTurns();
        int rider = game.place(0, EmpireTurns.RIDER, 27);
        Check.holds("aslant", game.step(rider, 1, 1));
        Check.same("tile", game.unit(rider, 2), 36);
        Check.holds("up", game.step(rider, 0, -1));
        Check.same("tile", game.unit(rider, 2), 28);
        Check.holds("back", game.step(rider, -1, 0));
        Check.holds("down and back", game.step(rider, -1, 1));
        Check.same("tile", game.unit(rider, 2), 34);
        Check.same("moves", game.unit(rider, 4), 0);
        Check.same("left", game.unitsOn(27), 0);
        Check.same("there", game.unitsOn(34), 1);
        Check.badState("no moves left", game, () -> game.step(rider, 1, 0));
        Check.badArgument("unitsOn 64", game, () -> game.unitsOn(64));
        Check.badArgument("unitsOn -1", game, () -> game.unitsOn(-1));
    }

    private static void stepRefused() {
        EmpireTurns game = new EmpireTurns();
        game.lay(9, EmpireTurns.SEA);
        int[] corners = {0, 7, 56, 63};
        for (int corner : corners) {
            int unit = game.place(0, EmpireTurns.GUARD, corner);
            int out = corner % 8 == 0 ? -1 : 1;
            int over = corner < 8 ? -1 : 1;
            Check.badState("beside", game, () -> game.step(unit, out, 0));
            Check.badState("above or below", game, () -> game.step(unit, 0, over));
            Check.badState("both", game, () -> game.step(unit, out, over));
            Check.badState("round the edge", game, () -> game.step(unit, out, -over));
        }
        Check.badState("SEA", game, () -> game.step(0, 1, 1));
        Check.nothingThere("unit 4", game, () -> game.step(4, 9, 9));
        Check.nothingThere("unit -1", game, () -> game.step(-1, 0, 1));
        Check.badArgument("not at all", game, () -> game.step(0, 0, 0));
        Check.badArgument("dx 2", game, () -> game.step(0, 2, 0));
        Check.badArgument("dx -2", game, () -> game.step(0, -2, 0));
        Check.badArgument("dy 2", game, () -> game.step(0, 0, 2));
        Check.badArgument("dy -2", game, () -> game.step(0, 0, -2));
        Check.badArgument("far", game, () -> game.step(0, Integer.MIN_VALUE, Integer.MAX_VALUE));
        for (int i = 0; i < 4; i++) {
            game.place(0, EmpireTurns.WORKER, 1);
        }
        Check.badState("4 units there", game, () -> game.step(0, 1, 0));
        game.step(4, 1, 0);
        Check.holds("3 units there", game.step(0, 1, 0));
    }

    private static void costs() {
        int[] due = {0, 1, 2, 2, 1, 1};
        for (int land = EmpireTurns.PLAIN; land <= EmpireTurns.RIVER; land++) {
            EmpireTurns game = new EmpireTurns();
            game.lay(20, land);
            int guard = game.place(0, EmpireTurns.GUARD, 19);
            game.step(guard, 1, 0);
            Check.same("land " + land, game.unit(guard, 4), 2 - due[land]);
        }
        EmpireTurns game = new EmpireTurns();
        Games.layAll(game, EmpireTurns.HILL);
        Games.city(game, 0, 18);
        int worker = game.place(0, EmpireTurns.WORKER, 19);
        int guard = game.place(0, EmpireTurns.GUARD, 18);
        int late = game.place(0, EmpireTurns.RIDER, 10);
        game.step(late, -1, 0);
        game.step(late, 1, 0);
        Check.badState("no moves left", game, () -> game.step(late, 1, 0));
        game.endTurn();
        game.work(worker, EmpireTurns.ROAD);
        Games.endTurns(game, 2);
        Check.same("a road", game.tile(19, 1), EmpireTurns.ROAD);
        Check.holds("to the road", game.step(guard, 1, 0));
        Check.same("costs 1", game.unit(guard, 4), 1);
        Check.badState("1 of 2 moves left", game, () -> game.step(guard, 1, 0));
    }

    private static void zones() {
        EmpireTurns game = new EmpireTurns();
        int scout = game.place(0, EmpireTurns.RIDER, 18);
        int quick = game.place(0, EmpireTurns.RIDER, 2);
        game.place(1, EmpireTurns.GUARD, 20);
        game.place(1, EmpireTurns.WORKER, 5);
        Check.holds("into a zone", game.step(scout, 1, 0));
        Check.badState("from zone to zone", game, () -> game.step(scout, 0, 1));
        Check.badState("from zone to zone", game, () -> game.step(scout, 1, -1));
        Check.holds("out of it", game.step(scout, -1, -1));
        Check.holds("into it again", game.step(scout, 1, 0));
        game.step(quick, 1, 0);
        game.step(quick, 1, 0);
        Check.holds("a worker keeps no zone", game.step(quick, 0, 1));
        Check.same("tile", game.unit(quick, 2), 12);
        Check.badState("but the guard does", game, () -> game.step(quick, 1, 0));
        Games.agree(game, 0, 1, EmpireTurns.PEACE, 5, 0);
        Check.holds("no zone in peace", game.step(quick, 1, 0));
    }

    private static void zonesOpen() {
        EmpireTurns game = new EmpireTurns();
        int first = game.place(0, EmpireTurns.RIDER, 19);
        int second = game.place(0, EmpireTurns.GUARD, 27);
        game.place(0, EmpireTurns.GUARD, 28);
        game.place(1, EmpireTurns.RAM, 20);
        Check.holds("to a tile with an own unit", game.step(second, 1, 0));
        Check.badState("which has none any more", game, () -> game.step(first, 0, 1));
        EmpireTurns other = new EmpireTurns();
        Games.city(other, 0, 27);
        int mover = other.place(0, EmpireTurns.GUARD, 19);
        other.place(1, EmpireTurns.RAM, 20);
        Check.holds("to an own city", other.step(mover, 0, 1));
        int worker = other.place(0, EmpireTurns.WORKER, 27);
        Check.badState("workers are barred, too", other, () -> other.step(worker, 1, 0));
        other.place(0, EmpireTurns.WORKER, 28);
        Check.holds("but not with units there", other.step(worker, 1, 0));
    }

    private static void borders() {
        EmpireTurns game = new EmpireTurns();
        Games.city(game, 0, 19);
        Games.city(game, 1, 63);
        int guest = game.place(1, EmpireTurns.RIDER, 22);
        int inside = game.place(1, EmpireTurns.WORKER, 26);
        int third = game.place(2, EmpireTurns.RIDER, 49);
        game.endTurn();
        Check.same("border", game.tile(21, 2), 0);
        Check.holds("they had no city", !Games.isThere(game, third));
        Games.agree(game, 0, 1, EmpireTurns.PEACE, 9, 0);
        Check.badState("borders", game, () -> game.step(guest, -1, 0));
        Check.badState("within borders, too", game, () -> game.step(inside, 0, 1));
        Games.agree(game, 0, 1, EmpireTurns.PASSAGE, 2, 0);
        Check.holds("a PASSAGE", game.step(guest, -1, 0));
        Check.holds("a PASSAGE", game.step(guest, -1, 0));
        Check.badState("but no city", game, () -> game.step(guest, -1, 0));
        Games.endTurns(game, 2);
        Check.badState("the PASSAGE has run out", game, () -> game.step(guest, 0, 1));
        game.cancel(1, 0);
        Check.holds("at war none bar", game.step(guest, 0, 1));
        Check.holds("and cities are taken", game.step(guest, -1, -1));
        Check.same("the size was 1", game.tile(19, 3), EmpireTurns.NONE);
    }

    private static void peace() {
        EmpireTurns game = new EmpireTurns();
        int mine = game.place(0, EmpireTurns.GUARD, 19);
        game.place(1, EmpireTurns.SETTLER, 20);
        Games.agree(game, 0, 1, EmpireTurns.PEACE, 9, 0);
        Check.badState("units in peace", game, () -> game.step(mine, 1, 0));
        Games.agree(game, 0, 1, EmpireTurns.PASSAGE, 9, 0);
        Check.badState("a PASSAGE does not help", game, () -> game.step(mine, 1, 0));
        game.found(1);
        Check.badState("nor into a city", game, () -> game.step(mine, 1, 0));
        Check.holds("beside it", game.step(mine, 0, 1));
    }

    private static void work() {
        EmpireTurns game = new EmpireTurns();
        game.lay(18, EmpireTurns.DESERT);
        Games.city(game, 0, 19);
        int worker = game.place(0, EmpireTurns.WORKER, 18);
        game.endTurn();
        game.work(worker, EmpireTurns.FARM);
        Check.same("turns left", game.unit(worker, 5), 2);
        Check.same("no moves left", game.unit(worker, 4), 0);
        Check.badState("no moves left", game, () -> game.work(worker, EmpireTurns.MINE));
        game.endTurn();
        Check.same("turns left", game.unit(worker, 5), 1);
        Check.same("moves are back", game.unit(worker, 4), 2);
        Check.same("not yet", game.tile(18, 1), 0);
        game.work(worker, EmpireTurns.MINE);
        Check.same("another one in its place", game.unit(worker, 5), 2);
        Games.endTurns(game, 2);
        Check.same("made", game.tile(18, 1), EmpireTurns.MINE);
        Check.same("no job", game.unit(worker, 5), 0);
        Check.badState("has it", game, () -> game.work(worker, EmpireTurns.MINE));
        game.work(worker, EmpireTurns.FARM);
        Games.endTurns(game, 2);
        game.work(worker, EmpireTurns.ROAD);
        Games.endTurns(game, 2);
        Check.same("all three", game.tile(18, 1), 7);
        Check.same("DESERT 0, 1, 1 with both", game.plan(0) >> 18 & 1, 1);
        Check.same("food", game.city(0, 8), 2 + 1);
        Check.same("work", game.city(0, 9), 1 + 2);
        Check.same("trade", game.city(0, 10), 1 + 1);
        Check.badState("has it", game, () -> game.work(worker, EmpireTurns.ROAD));
    }

    private static void workRefused() {
        EmpireTurns game = new EmpireTurns();
        game.lay(9, EmpireTurns.HILL);
        game.lay(11, EmpireTurns.RIVER);
        game.lay(13, EmpireTurns.FOREST);
        Games.city(game, 0, 19);
        Games.city(game, 1, 63);
        Games.city(game, 0, 22);
        int hill = game.place(0, EmpireTurns.WORKER, 9);
        int river = game.place(0, EmpireTurns.WORKER, 11);
        int forest = game.place(0, EmpireTurns.WORKER, 13);
        int guard = game.place(0, EmpireTurns.GUARD, 19);
        int guest = game.place(1, EmpireTurns.WORKER, 20);
        int far = game.place(1, EmpireTurns.WORKER, 58);
        game.endTurn();
        Check.nothingThere("unit 99", game, () -> game.work(99, 3));
        Check.nothingThere("unit -1", game, () -> game.work(-1, 1));
        int[] bad = {-1, 0, 3, 5, 6, 7, 8};
        for (int what : bad) {
            Check.badArgument("what " + what, game, () -> game.work(hill, what));
            Check.badArgument("what before kind", game, () -> game.work(guard, what));
        }
        Check.badState("no worker", game, () -> game.work(guard, EmpireTurns.ROAD));
        Check.same("another one's", game.tile(20, 2), 0);
        Check.badState("another one's", game, () -> game.work(guest, EmpireTurns.ROAD));
        Check.same("nobody's", game.tile(58, 2), EmpireTurns.NONE);
        Check.badState("nobody's", game, () -> game.work(far, EmpireTurns.ROAD));
        Check.badState("FARM on HILL", game, () -> game.work(hill, EmpireTurns.FARM));
        Check.badState("FARM on FOREST", game, () -> game.work(forest, EmpireTurns.FARM));
        Check.badState("MINE on FOREST", game, () -> game.work(forest, EmpireTurns.MINE));
        Check.badState("MINE on RIVER", game, () -> game.work(river, EmpireTurns.MINE));
        game.step(river, 1, 0);
        Check.badState("MINE on PLAIN", game, () -> game.work(river, EmpireTurns.MINE));
        game.step(river, -1, 0);
        Check.badState("no moves left", game, () -> game.work(river, EmpireTurns.FARM));
        game.work(hill, EmpireTurns.MINE);
        game.work(forest, EmpireTurns.ROAD);
        game.endTurn();
        game.work(river, EmpireTurns.FARM);
        Games.endTurns(game, 2);
        Check.same("MINE", game.tile(9, 1), EmpireTurns.MINE);
        Check.same("ROAD", game.tile(13, 1), EmpireTurns.ROAD);
        Check.same("FARM", game.tile(11, 1), EmpireTurns.FARM);
    }

    private static void jobs() {
        EmpireTurns game = new EmpireTurns();
        game.lay(16, EmpireTurns.SEA);
        Games.city(game, 0, 19);
        Games.city(game, 0, 23);
        int stays = game.place(0, EmpireTurns.WORKER, 17);
        int goes = game.place(0, EmpireTurns.WORKER, 25);
        int helps = game.place(0, EmpireTurns.WORKER, 17);
        game.endTurn();
        game.work(stays, EmpireTurns.FARM);
        game.work(goes, EmpireTurns.FARM);
        game.work(helps, EmpireTurns.FARM);
        game.endTurn();
        game.step(goes, 0, -1);
        Check.same("given up", game.unit(goes, 5), 0);
        Check.badState("a step that it cannot do", game, () -> game.step(stays, -1, 0));
        Check.same("does not give the job up", game.unit(stays, 5), 1);
        game.endTurn();
        Check.same("not made", game.tile(25, 1), 0);
        Check.same("nor where it is", game.tile(17, 1), EmpireTurns.FARM);
        Check.badState("made by both", game, () -> game.work(helps, EmpireTurns.FARM));
        jobWithoutBorders();
    }

    private static void jobWithoutBorders() {
        EmpireTurns game = new EmpireTurns();
        Games.city(game, 0, 19);
        Games.city(game, 0, 63);
        Games.city(game, 1, 7);
        int worker = game.place(0, EmpireTurns.WORKER, 17);
        int rider = game.place(1, EmpireTurns.RIDER, 20);
        game.endTurn();
        game.work(worker, EmpireTurns.ROAD);
        game.step(rider, -1, 0);
        Check.same("the city is destroyed", game.tile(19, 3), EmpireTurns.NONE);
        Games.endTurns(game, 2);
        Check.same("nobody's", game.tile(17, 2), EmpireTurns.NONE);
        Check.same("but made", game.tile(17, 1), EmpireTurns.ROAD);
    }

    private static void unit() {
        EmpireTurns game = new EmpireTurns();
        int unit = game.place(1, EmpireTurns.RAM, 5);
        Check.nothingThere("unit 1", game, () -> game.unit(1, 6));
        Check.nothingThere("unit -1", game, () -> game.unit(-1, 0));
        Check.badArgument("what 6", game, () -> game.unit(unit, 6));
        Check.badArgument("what -1", game, () -> game.unit(unit, -1));
    }
}
