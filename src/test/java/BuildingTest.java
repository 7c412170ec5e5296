/** Promises 1 to 3: a new object, build, tear. */
public final class BuildingTest {
    public static void main(String[] args) {
        newTownIsEmpty();
        buildTakesTheCost();
        buildRefuses();
        buildWithJustTheCost();
        tearGivesWhatItWas();
        tearRefuses();
        tornZoneBeginsAnew();
        Check.end();
    }

    private static void newTownIsEmpty() {
        MillbrookBorough town = new MillbrookBorough();
        for (int cell = 0; cell < 64; cell++) {
            Check.due("kind of a new town", town.kind(cell), 0);
            Check.due("level of a new town", town.level(cell), 0);
            Check.due("sign of a new town", town.sign(cell, 0), '.');
            Check.due("net of a new town", town.net(cell), -1);
            Check.due("value of a new town", town.value(cell), 10);
        }
        Check.due("cash of a new town", town.cash(), 1000);
        Check.due("debt of a new town", town.debt(), 0);
        Check.due("earned of a new town", town.earned(), 0);
        Check.due("tax of homes", town.setTax(false, 3), 3);
        Check.due("tax of trades", town.setTax(true, 4), 4);
        MillbrookBorough other = new MillbrookBorough();
        other.build(0, 1);
        Check.due("a town beside another", town.kind(0), 0);
    }

    private static void buildTakesTheCost() {
        MillbrookBorough town = new MillbrookBorough();
        Check.due("build a road", town.build(0, 1), 990);
        Check.due("build homes", town.build(1, 2), 970);
        Check.due("build trades", town.build(2, 3), 950);
        Check.due("build a park", town.build(3, 4), 920);
        Check.due("build power works", town.build(62, 5), 720);
        Check.due("build water works", town.build(63, 6), 570);
        Check.due("cash", town.cash(), 570);
        int[] cells = {0, 1, 2, 3, 62, 63};
        for (int i = 0; i < cells.length; i++) {
            Check.due("kind built", town.kind(cells[i]), i + 1);
        }
        Check.due("earned is not by building", town.earned(), 0);
    }

    private static void buildRefuses() {
        MillbrookBorough town = new MillbrookBorough();
        town.build(0, 1);
        Check.dueRefusal("build(-1, 1)", Check.INDEX, town, () -> town.build(-1, 1));
        Check.dueRefusal("build(64, 0)", Check.INDEX, town, () -> town.build(64, 0));
        Check.dueRefusal("build(0, 0)", Check.ARGUMENT, town, () -> town.build(0, 0));
        Check.dueRefusal("build(1, 7)", Check.ARGUMENT, town, () -> town.build(1, 7));
        Check.dueRefusal("build(0, 2)", Check.STATE, town, () -> town.build(0, 2));
        Check.dueThrow("build(min, min)", Check.INDEX, () -> town.build(Integer.MIN_VALUE, Integer.MIN_VALUE));
        Check.dueThrow("build(1, max)", Check.ARGUMENT, () -> town.build(1, Integer.MAX_VALUE));
    }

    private static void buildWithJustTheCost() {
        MillbrookBorough town = new MillbrookBorough();
        Towns.buildAll(town, Towns.POWER, 0, 1, 2, 3);
        Towns.buildAll(town, Towns.ROAD, 4, 5);
        town.build(6, Towns.PARK);
        Check.due("build water works with 150", town.build(7, Towns.WATER), 0);
        Check.dueRefusal("build(8, 1) without cash", Check.STATE, town, () -> town.build(8, 1));
        town.borrow(199);
        Check.dueThrow("build(8, 5) with 199", Check.STATE, () -> town.build(8, 5));
        Check.dueThrow("build(8, 7) without cash", Check.ARGUMENT, () -> town.build(8, 7));
        Check.due("build(8, 6) with 199", town.build(8, 6), 49);
    }

    private static void tearGivesWhatItWas() {
        MillbrookBorough town = new MillbrookBorough();
        int cash = 1000;
        int[] costs = {10, 20, 20, 30, 200, 150};
        for (int kind = 1; kind <= 6; kind++) {
            town.build(63, kind);
            Check.due("tear", town.tear(63), kind);
            cash -= costs[kind - 1] + 5;
            Check.due("cash behind tear", town.cash(), cash);
            Check.due("kind behind tear", town.kind(63), 0);
        }
        Check.due("earned is not by tearing", town.earned(), 0);
    }

    private static void tearRefuses() {
        MillbrookBorough town = new MillbrookBorough();
        town.build(0, 1);
        Check.dueRefusal("tear(-1)", Check.INDEX, town, () -> town.tear(-1));
        Check.dueRefusal("tear(64)", Check.INDEX, town, () -> town.tear(64));
        Check.dueRefusal("tear(1) of an empty cell", Check.STATE, town, () -> town.tear(1));
        MillbrookBorough poor = new MillbrookBorough();
        Towns.buildAll(poor, Towns.POWER, 0, 1, 2, 3, 4);
        poor.borrow(4);
        Check.dueRefusal("tear(0) with 4", Check.STATE, poor, () -> poor.tear(0));
        poor.borrow(1);
        Check.due("tear(0) with 5", poor.tear(0), 5);
        Check.due("cash behind it", poor.cash(), 0);
    }

    private static void tornZoneBeginsAnew() {
        MillbrookBorough town = Towns.street();
        town.build(0, Towns.HOMES);
        town.pass(1);
        Check.due("level before", town.level(0), 1);
        town.tear(0);
        Check.due("level of the torn one", town.level(0), 0);
        town.build(0, Towns.TRADES);
        Check.due("level of the next one", town.level(0), 0);
        town.tear(8);
        Check.due("net of the cell without a road", town.net(0), -1);
    }
}
