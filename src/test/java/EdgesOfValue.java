/** Terms: the value of a cell. */
final class EdgesOfValue {
    private static final String PLAIN = "The value of a cell is 10";
    private static final String PARKS = "5 more for each park at a distance of at most 2";
    private static final String POWER = "10 less for each power works at a distance of at most 2";
    private static final String TRAFFIC = "and less by the traffic of its road, if it has one and is no road itself";
    private static final String LEAST = "but 0 at least";

    private EdgesOfValue() {
    }

    static void all() {
        allButParksAndPowerLeaveIt();
        parksUpToTwo();
        parksAllRound();
        powerUpToTwo();
        neverBelowZeroByPower();
        neverBelowZeroByTraffic();
        roadsAreNotLowered();
        onlyTheLowestRoadLowers();
        withoutARoadNothingLowers();
    }

    private static void allButParksAndPowerLeaveIt() {
        Edge.of("Terms", PLAIN);
        MillbrookBorough town = Towns.drawn(0, "", ".#HTW");
        for (int cell = 0; cell < 24; cell++) {
            Check.due("value of " + cell, town.value(cell), 10);
        }
    }

    private static void parksUpToTwo() {
        Edge.of("Terms", PARKS);
        MillbrookBorough town = Towns.drawn(0, "", "", "", "...P");
        Check.due("its own cell", town.value(27), 15);
        int[] atTwo = {11, 18, 20, 25, 29, 34, 36, 43};
        for (int cell : atTwo) {
            Check.due("distance of 2, " + cell, town.value(cell), 15);
        }
        int[] atThree = {3, 10, 12, 17, 21, 24, 30, 33, 37, 42, 44, 51};
        for (int cell : atThree) {
            Check.due("distance of 3, " + cell, town.value(cell), 10);
        }
    }

    private static void parksAllRound() {
        Edge.of("Terms", PARKS);
        MillbrookBorough town = Towns.drawn(0, "PPP....P", "PP.P....", "P.PPP...", ".PPPPP..", "..PPP...", "...P....");
        Check.due("all 13 of an inner cell", town.value(27), 10 + 5 * 13);
        Check.due("all 6 of a corner", town.value(0), 10 + 5 * 6);
        Check.due("the next row is not near a row's end", town.value(7), 15);
        town.tear(43);
        Check.due("12 of them", town.value(27), 10 + 5 * 12);
    }

    private static void powerUpToTwo() {
        Edge.of("Terms", POWER);
        MillbrookBorough town = Towns.drawn(0, "", "", "", "...E");
        Check.due("its own cell", town.value(27), 0);
        int[] atTwo = {11, 18, 20, 25, 29, 34, 36, 43};
        for (int cell : atTwo) {
            Check.due("distance of 2, " + cell, town.value(cell), 0);
        }
        int[] atThree = {3, 10, 12, 17, 21, 24, 30, 33, 37, 42, 44, 51};
        for (int cell : atThree) {
            Check.due("distance of 3, " + cell, town.value(cell), 10);
        }
        town.tear(27);
        Check.due("its cell when it is torn", town.value(27), 10);
    }

    private static void neverBelowZeroByPower() {
        Edge.of("Terms", LEAST);
        MillbrookBorough town = Towns.drawn(0, "E.E");
        Check.due("10 - 20", town.value(1), 0);
        town.build(9, Towns.PARK);
        Check.due("15 - 20", town.value(1), 0);
        town.build(3, Towns.PARK);
        Check.due("20 - 20", town.value(1), 0);
        town.build(17, Towns.PARK);
        Check.due("25 - 20", town.value(1), 5);
    }

    /** The cell 19 has the road 11, and no park near; two pairs of the level 3 make traffic of 12. */
    private static void neverBelowZeroByTraffic() {
        Edge.of("Terms", LEAST);
        MillbrookBorough town = Towns.twoPairs();
        Check.due("traffic of 10", town.traffic(11), 10);
        Check.due("10 - 10", town.value(19), 0);
        town.build(3, Towns.PARK);
        town.pass(1);
        Check.due("traffic of 12", town.traffic(11), 12);
        Check.due("15 - 12", town.value(19), 3);
        town.tear(3);
        Check.due("10 - 12", town.value(19), 0);
    }

    private static void roadsAreNotLowered() {
        Edge.of("Terms", TRAFFIC);
        MillbrookBorough town = Towns.street();
        town.build(0, Towns.HOMES);
        town.build(4, Towns.TRADES);
        town.build(17, Towns.WATER);
        town.pass(1);
        Check.due("traffic", town.traffic(10), 2);
        Check.due("a road", town.value(10), 10);
        Check.due("homes", town.value(0), 8);
        Check.due("trades", town.value(4), 8);
        Check.due("an empty cell", town.value(18), 8);
        Check.due("water works", town.value(17), 8);
        town.build(19, Towns.PARK);
        Check.due("the park's own cell", town.value(19), 13);
        Check.due("a road near the park", town.value(11), 15);
        Check.due("a cell by a road without traffic", town.value(5), 10);
    }

    /** The road 2 leads nowhere, so that it has no traffic. */
    private static void onlyTheLowestRoadLowers() {
        Edge.of("Terms", TRAFFIC);
        MillbrookBorough town = Towns.street();
        town.build(0, Towns.HOMES);
        town.build(4, Towns.TRADES);
        town.build(24, Towns.ROAD);
        town.pass(1);
        Check.due("by the road above, not by that below", town.value(16), 8);
        Check.due("by the road below", town.value(1), 8);
        town.build(2, Towns.ROAD);
        Check.due("by the road at the right, not by that below", town.value(1), 10);
        Check.due("by the road at the left, not by that below", town.value(3), 10);
    }

    private static void withoutARoadNothingLowers() {
        Edge.of("Terms", TRAFFIC);
        MillbrookBorough town = Towns.street();
        town.build(0, Towns.HOMES);
        town.build(4, Towns.TRADES);
        town.pass(1);
        Check.due("a cell without a road", town.value(24), 10);
        Check.due("homes with a road", town.value(0), 8);
        town.tear(8);
        Check.due("homes without a road", town.value(0), 10);
    }
}
