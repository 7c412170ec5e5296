/** Promise 19: the value of a cell. */
public final class ValueTest {
    public static void main(String[] args) {
        parksAtTwo();
        powerWorksAtTwo();
        neverBelowZero();
        trafficOfTheRoad();
        refusals();
        Check.end();
    }

    private static int distance(int one, int other) {
        return Math.abs(one / 8 - other / 8) + Math.abs(one % 8 - other % 8);
    }

    private static void parksAtTwo() {
        MillbrookBorough town = new MillbrookBorough();
        town.build(23, Towns.PARK);
        for (int cell = 0; cell < 64; cell++) {
            Check.due("value by a park of cell " + cell, town.value(cell), distance(cell, 23) <= 2 ? 15 : 10);
        }
        town.build(22, Towns.PARK);
        Check.due("value by two parks", town.value(23), 20);
        town.tear(22);
        Check.due("value by the one left", town.value(23), 15);
    }

    private static void powerWorksAtTwo() {
        MillbrookBorough town = new MillbrookBorough();
        town.build(36, Towns.POWER);
        town.build(0, Towns.WATER);
        for (int cell = 0; cell < 64; cell++) {
            Check.due("value by power of cell " + cell, town.value(cell), distance(cell, 36) <= 2 ? 0 : 10);
        }
        town.build(20, Towns.PARK);
        Check.due("value by power and a park", town.value(28), 5);
    }

    private static void neverBelowZero() {
        MillbrookBorough town = new MillbrookBorough();
        town.build(0, Towns.POWER);
        town.build(2, Towns.POWER);
        Check.due("value by two power works", town.value(1), 0);
        town.build(9, Towns.PARK);
        Check.due("a park can't lift it yet", town.value(1), 0);
        Towns.buildAll(town, Towns.PARK, 3, 17);
        Check.due("10 + 15 - 20 is told as 5", town.value(1), 5);
    }

    private static void trafficOfTheRoad() {
        MillbrookBorough town = Towns.street();
        town.build(0, Towns.HOMES);
        town.build(4, Towns.TRADES);
        town.pass(1);
        Check.due("value of homes", town.value(0), 8);
        Check.due("value of trades", town.value(4), 8);
        Check.due("value of an empty cell", town.value(18), 8);
        Check.due("value of a road", town.value(10), 10);
        Check.due("value of a cell without a road", town.value(24), 10);
        Check.due("value near power, without traffic", town.value(21), 10);
        Check.due("value near power", town.value(5), 10);
        Check.due("value at 2 of power", town.value(22), 0);
    }

    private static void refusals() {
        MillbrookBorough town = new MillbrookBorough();
        int[] cells = {-1, 64, Integer.MIN_VALUE, Integer.MAX_VALUE};
        for (int cell : cells) {
            Check.dueThrow("value", Check.INDEX, () -> town.value(cell));
        }
    }
}
