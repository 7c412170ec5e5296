/** Promises 17, 18 and 21: who has a job where, and the traffic. */
public final class JobsTest {
    public static void main(String[] args) {
        twoForEachLevel();
        lowerTradesFirst();
        lowerHomesFirst();
        nearerOnesFirst();
        notServedButAtWork();
        otherNetsAreFar();
        trafficTakesTheLowestRoads();
        refusals();
        Check.end();
    }

    private static void twoForEachLevel() {
        MillbrookBorough town = Towns.street();
        town.build(0, Towns.HOMES);
        town.build(4, Towns.TRADES);
        Towns.buildAll(town, Towns.PARK, 1, 3, 16, 20);
        for (int level = 0; level <= 3; level++) {
            Check.due("level", town.level(0), level);
            Check.due("going", town.going(0, 4), 2 * level);
            Check.due("placed of homes", town.placed(0), 2 * level);
            Check.due("placed of trades", town.placed(4), 2 * level);
            for (int road = 8; road <= 12; road++) {
                Check.due("traffic", town.traffic(road), 2 * level);
            }
            Check.due("traffic behind it", town.traffic(13), 0);
            town.pass(1);
        }
        Check.due("going the other way", town.going(4, 0), 0);
        Check.due("going from a road", town.going(8, 4), 0);
        Check.due("going to a park", town.going(0, 1), 0);
        Check.due("going nowhere", town.going(63, 63), 0);
        Check.due("placed of a road", town.placed(8), 0);
        Check.due("placed of an empty cell", town.placed(63), 0);
        Check.due("traffic of a zone", town.traffic(0), 0);
        Check.due("traffic of an empty cell", town.traffic(2), 0);
        town.tear(4);
        Check.due("placed without trades", town.placed(0), 0);
        Check.due("going to what was torn", town.going(0, 4), 0);
        Check.due("traffic without trades", town.traffic(9), 0);
    }

    private static void lowerTradesFirst() {
        MillbrookBorough town = Towns.street();
        town.build(2, Towns.HOMES);
        town.build(4, Towns.TRADES);
        town.build(0, Towns.TRADES);
        town.pass(1);
        Check.due("to the lower one", town.going(2, 0), 2);
        Check.due("to the higher one", town.going(2, 4), 0);
        Check.due("traffic to the lower one", town.traffic(9), 2);
        Check.due("traffic to the higher one", town.traffic(11), 0);
    }

    private static void lowerHomesFirst() {
        MillbrookBorough town = Towns.street();
        town.build(2, Towns.TRADES);
        town.build(4, Towns.HOMES);
        town.build(0, Towns.HOMES);
        town.pass(1);
        Check.due("from the lower one", town.going(0, 2), 2);
        Check.due("from the higher one", town.going(4, 2), 0);
        Check.due("placed of the higher one", town.placed(4), 0);
        Check.due("placed of trades", town.placed(2), 2);
    }

    private static void nearerOnesFirst() {
        MillbrookBorough town = Towns.street();
        town.build(0, Towns.HOMES);
        town.build(19, Towns.HOMES);
        town.build(4, Towns.TRADES);
        town.pass(1);
        Check.due("from the far one", town.going(0, 4), 0);
        Check.due("from the near one", town.going(19, 4), 2);
        town.pass(1);
        Check.due("the far one fell", town.level(0), 0);
        town.build(16, Towns.TRADES);
        town.pass(1);
        Check.due("over one road", town.going(0, 16), 2);
        Check.due("traffic of one road", town.traffic(8), 2);
        Check.due("no traffic beside it", town.traffic(9), 0);
        Check.due("the near one as before", town.going(19, 4), 2);
    }

    private static void notServedButAtWork() {
        MillbrookBorough town = Towns.street();
        town.build(0, Towns.HOMES);
        town.build(4, Towns.TRADES);
        town.pass(1);
        town.tear(15);
        Check.due("not served", town.isServed(0) ? 1 : 0, 0);
        Check.due("but at work", town.going(0, 4), 2);
        Check.due("with traffic", town.traffic(10), 2);
    }

    private static void otherNetsAreFar() {
        MillbrookBorough town = Towns.street();
        town.build(0, Towns.HOMES);
        town.build(4, Towns.TRADES);
        town.pass(1);
        town.tear(10);
        Check.due("going over the gap", town.going(0, 4), 0);
        Check.due("placed behind the gap", town.placed(4), 0);
        Check.due("level is as before", town.level(0), 1);
        town.build(10, Towns.ROAD);
        Check.due("going over the mended road", town.going(0, 4), 2);
    }

    /** A ring of roads has two ways of one length between the zones: over 1, 2 and over 16, 17. */
    private static void trafficTakesTheLowestRoads() {
        MillbrookBorough town = new MillbrookBorough();
        Towns.buildAll(town, Towns.ROAD, 9, 10, 11, 12, 17, 20, 25, 26, 27, 28);
        Towns.buildAll(town, Towns.ROAD, 29, 30, 31);
        town.build(39, Towns.POWER);
        town.build(38, Towns.WATER);
        town.build(1, Towns.HOMES);
        town.build(36, Towns.TRADES);
        town.pass(1);
        Check.due("steps", town.steps(1, 36), 5);
        Check.due("going", town.going(1, 36), 2);
        int[] used = {9, 10, 11, 12, 20, 28};
        for (int road : used) {
            Check.due("traffic of a used road", town.traffic(road), 2);
        }
        int[] free = {17, 25, 26, 27, 29};
        for (int road : free) {
            Check.due("traffic of a free road", town.traffic(road), 0);
        }
        town.tear(11);
        Check.due("traffic of the other way", town.traffic(26), 2);
        Check.due("traffic of the end", town.traffic(10), 0);
    }

    private static void refusals() {
        MillbrookBorough town = new MillbrookBorough();
        int[] cells = {-1, 64, Integer.MIN_VALUE, Integer.MAX_VALUE};
        for (int cell : cells) {
            Check.dueThrow("placed", Check.INDEX, () -> town.placed(cell));
            Check.dueThrow("traffic", Check.INDEX, () -> town.traffic(cell));
            Check.dueThrow("going from", Check.INDEX, () -> town.going(cell, 0));
            Check.dueThrow("going to", Check.INDEX, () -> town.going(0, cell));
        }
    }
}
