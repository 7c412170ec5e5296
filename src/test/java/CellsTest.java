/** Promises 11 to 13: kind, level, sign. */
public final class CellsTest {
    public static void main(String[] args) {
        kindsAndSigns();
        levelsInSigns();
        refusals();
        Check.end();
    }

    private static String textOf(MillbrookBorough town, int cell) {
        StringBuilder text = new StringBuilder();
        try {
            for (int place = 0; place < 10; place++) {
                text.append(town.sign(cell, place));
            }
        } catch (IndexOutOfBoundsException e) {
            return text.toString();
        }
        return text.append("..").toString();
    }

    private static void kindsAndSigns() {
        MillbrookBorough town = new MillbrookBorough();
        String[] texts = {".", "#", "H0", "T0", "park", "power", "water"};
        for (int kind = 0; kind <= 6; kind++) {
            if (kind > 0) {
                town.build(57 + kind, kind);
            }
            Check.due("kind", town.kind(57 + kind), kind);
            Check.due("level", town.level(57 + kind), 0);
            Check.due("sign", textOf(town, 57 + kind), texts[kind]);
        }
    }

    private static void levelsInSigns() {
        MillbrookBorough town = Towns.street();
        town.build(0, Towns.HOMES);
        town.build(4, Towns.TRADES);
        town.pass(1);
        Check.due("level of homes", town.level(0), 1);
        Check.due("level of trades", town.level(4), 1);
        Check.due("sign of homes", textOf(town, 0), "H1");
        Check.due("sign of trades", textOf(town, 4), "T1");
        Check.due("kind of homes", town.kind(0), 2);
        Check.due("kind of trades", town.kind(4), 3);
    }

    private static void refusals() {
        MillbrookBorough town = new MillbrookBorough();
        town.build(63, Towns.PARK);
        int[] cells = {-1, 64, Integer.MIN_VALUE, Integer.MAX_VALUE};
        for (int cell : cells) {
            Check.dueThrow("kind", Check.INDEX, () -> town.kind(cell));
            Check.dueThrow("level", Check.INDEX, () -> town.level(cell));
            Check.dueThrow("sign", Check.INDEX, () -> town.sign(cell, 0));
            Check.dueThrow("sign at a place", Check.INDEX, () -> town.sign(63, cell));
        }
        Check.dueThrow("sign(0, 1)", Check.INDEX, () -> town.sign(0, 1));
        Check.dueThrow("sign(63, 4)", Check.INDEX, () -> town.sign(63, 4));
        Check.due("sign(63, 3)", town.sign(63, 3), 'k');
    }
}
