/** Promises 16 and 20: who is served, and the power that is left. */
public final class SupplyTest {
    public static void main(String[] args) {
        bothAreNeeded();
        twentyForEachOfTheWorks();
        netsApart();
        needByLevel();
        refusals();
        Check.end();
    }

    private static void bothAreNeeded() {
        MillbrookBorough town = new MillbrookBorough();
        Towns.buildAll(town, Towns.ROAD, 0, 1, 2, 3);
        town.build(8, Towns.HOMES);
        Check.due("served without works", town.isServed(8) ? 1 : 0, 0);
        Check.due("power without works", town.powerLeft(0), 0);
        town.build(4, Towns.POWER);
        Check.due("served without water", town.isServed(8) ? 1 : 0, 0);
        Check.due("power, none taken", town.powerLeft(0), 20);
        town.build(10, Towns.WATER);
        Check.due("served with both", town.isServed(8) ? 1 : 0, 1);
        Check.due("power, one taken", town.powerLeft(0), 19);
        Check.due("power told at a zone", town.powerLeft(8), 19);
        Check.due("power told at the works", town.powerLeft(4), 19);
        Check.due("power told at an empty cell", town.powerLeft(11), 19);
        Check.due("power without a net", town.powerLeft(63), 0);
        Check.due("a road is not served", town.isServed(0) ? 1 : 0, 0);
        Check.due("works are not served", town.isServed(4) ? 1 : 0, 0);
        Check.due("an empty cell is not served", town.isServed(9) ? 1 : 0, 0);
        town.tear(4);
        Check.due("served without power", town.isServed(8) ? 1 : 0, 0);
        Check.due("power of torn works", town.powerLeft(0), 0);
    }

    private static void twentyForEachOfTheWorks() {
        MillbrookBorough town = new MillbrookBorough();
        town.borrow(1000);
        Towns.buildAll(town, Towns.ROAD, 8, 9, 10, 11, 12, 13, 14, 15, 16, 24);
        Towns.buildAll(town, Towns.ROAD, 32, 33, 34, 35, 36, 37, 38, 39);
        town.build(0, Towns.POWER);
        town.build(1, Towns.WATER);
        Towns.buildAll(town, Towns.TRADES, 40, 31, 30, 29, 28, 27, 26, 25);
        Towns.buildAll(town, Towns.HOMES, 2, 3, 4, 5, 6, 7, 17, 18, 19, 20, 21, 22, 23);
        Check.due("the 20th zone", town.isServed(31) ? 1 : 0, 1);
        Check.due("the 21st zone", town.isServed(40) ? 1 : 0, 0);
        Check.due("power left", town.powerLeft(8), 0);
        town.build(41, Towns.POWER);
        Check.due("the 21st zone without water", town.isServed(40) ? 1 : 0, 0);
        Check.due("power, none for the 21st", town.powerLeft(8), 20);
        town.build(42, Towns.WATER);
        Check.due("the 21st zone with both", town.isServed(40) ? 1 : 0, 1);
        Check.due("power of two works", town.powerLeft(8), 19);
        town.tear(41);
        Check.due("the 21st zone without power", town.isServed(40) ? 1 : 0, 0);
        Check.due("power of one works", town.powerLeft(8), 0);
        town.tear(2);
        Check.due("the 20th of those left", town.isServed(40) ? 1 : 0, 1);
    }

    private static void netsApart() {
        MillbrookBorough town = new MillbrookBorough();
        Towns.buildAll(town, Towns.ROAD, 0, 2, 62);
        town.build(1, Towns.POWER);
        town.build(8, Towns.WATER);
        town.build(10, Towns.HOMES);
        Check.due("the works go to the lowest road", town.powerLeft(0), 20);
        Check.due("the other net has none", town.powerLeft(2), 0);
        Check.due("a zone of the other net", town.isServed(10) ? 1 : 0, 0);
        town.build(63, Towns.POWER);
        Check.due("works of a far net", town.powerLeft(62), 20);
        Check.due("the net is as before", town.powerLeft(0), 20);
        town.build(9, Towns.ROAD);
        Check.due("road 9 joins none of cell 0", town.net(9), 9);
        town.tear(1);
        town.build(1, Towns.ROAD);
        Check.due("one net now", town.net(10), 0);
        Check.due("no works are left in it", town.powerLeft(0), 0);
    }

    private static void needByLevel() {
        MillbrookBorough town = Towns.street();
        town.build(0, Towns.HOMES);
        town.build(4, Towns.TRADES);
        Towns.buildAll(town, Towns.PARK, 1, 3, 16, 20);
        Check.due("power, level 0", town.powerLeft(8), 18);
        town.pass(1);
        Check.due("power, level 1", town.powerLeft(8), 18);
        town.pass(1);
        Check.due("level 2", town.level(0), 2);
        Check.due("power, level 2", town.powerLeft(8), 16);
        town.pass(1);
        Check.due("level 3", town.level(4), 3);
        Check.due("power, level 3", town.powerLeft(8), 14);
        town.tear(6);
        Check.due("power, none is served", town.powerLeft(8), 20);
    }

    private static void refusals() {
        MillbrookBorough town = new MillbrookBorough();
        int[] cells = {-1, 64, Integer.MIN_VALUE, Integer.MAX_VALUE};
        for (int cell : cells) {
            Check.dueThrow("isServed", Check.INDEX, () -> town.isServed(cell));
            Check.dueThrow("powerLeft", Check.INDEX, () -> town.powerLeft(cell));
        }
    }
}
