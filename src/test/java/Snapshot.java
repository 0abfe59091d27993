/** All that can be asked of a game without changing it, as one text. */
final class Snapshot {
    private static final int MOST_UNIT_NUMBER = 300;

    private Snapshot() {
    }

    static String of(EmpireTurns game) {
        StringBuilder text = new StringBuilder();
        for (int tile = 0; tile < 64; tile++) {
            for (int what = 0; what < 4; what++) {
                text.append(game.tile(tile, what)).append(' ');
            }
            text.append(game.unitsOn(tile)).append(';');
        }
        for (int player = 0; player < 4; player++) {
            for (int what = 0; what < 7; what++) {
                text.append(game.player(player, what)).append(' ');
            }
            for (int what = 0; what < 8; what++) {
                text.append(game.ledger(player, what)).append(' ');
            }
            for (int other = 0; other < 4; other++) {
                text.append(game.atWar(player, other)).append(';');
            }
        }
        for (int city = 0; city < 12; city++) {
            addCity(text, game, city);
        }
        for (int treaty = 0; treaty < 40; treaty++) {
            addTreaty(text, game, treaty);
        }
        for (int unit = 0; unit < MOST_UNIT_NUMBER; unit++) {
            addUnit(text, game, unit);
        }
        return text.toString();
    }

    private static void addCity(StringBuilder text, EmpireTurns game, int city) {
        try {
            text.append("city ").append(city).append(": ").append(game.plan(city)).append(' ');
        } catch (IndexOutOfBoundsException e) {
            text.append("none;");
            return;
        }
        for (int what = 0; what < 11; what++) {
            text.append(game.city(city, what)).append(' ');
        }
    }

    private static void addTreaty(StringBuilder text, EmpireTurns game, int treaty) {
        try {
            text.append("treaty ").append(game.treaty(treaty, 0)).append(' ');
        } catch (IndexOutOfBoundsException e) {
            text.append("none;");
            return;
        }
        for (int what = 1; what < 6; what++) {
            text.append(game.treaty(treaty, what)).append(' ');
        }
    }

    private static void addUnit(StringBuilder text, EmpireTurns game, int unit) {
        try {
            text.append("unit ").append(unit).append(' ').append(game.unit(unit, 0)).append(' ');
        } catch (IndexOutOfBoundsException e) {
            text.append("none;");
            return;
        }
        for (int what = 1; what < 6; what++) {
            text.append(game.unit(unit, what)).append(' ');
        }
    }
}
