/** Terms: workers and jobs, and the traffic that they make. */
final class EdgesOfJobs {
    private static final String EACH_LEVEL = "A zone for homes has 2 workers for each level,"
        + " a zone for trades 2 jobs for each level.";
    private static final String SAME_NET = "Pairs of a zone for homes and one for trades in the same net";
    private static final String BY_DISTANCE = "are gone through by rising distance by road of their roads";
    private static final String SAME_DISTANCE =
        "with the same one by rising zones for homes, then by rising zones for trades";
    private static final String AS_MANY =
        "as many workers as are left without a job in the one take jobs that are left in the other";
    private static final String WAY =
        "over the lowest one of the neighbours that is nearer by road to that of the other, up to that";
    private static final String FIRST = "first over that of the one";
    private static final String ALL = "The traffic of a road is the number of all who go over it.";

    private EdgesOfJobs() {
    }

    static void all() {
        twoForEachLevel();
        otherNetsHaveNoJobs();
        nearerTradesFirst();
        nearerHomesFirst();
        theRoadCountsNotTheBoard();
        lowerHomesFirst();
        lowerTradesFirst();
        moreWorkersThanJobs();
        moreJobsThanWorkers();
        noOneToPlace();
        manyPairsWithoutJobs();
        oneRoadForBoth();
        wayOfTheLowestNeighbours();
        theWayBackIsAnother();
        theWayFromTheLowestRoad();
        allWhoGoOverIt();
    }

    private static void twoForEachLevel() {
        Edge.of("Terms", EACH_LEVEL);
        MillbrookBorough town = Towns.street();
        town.build(0, Towns.HOMES);
        town.build(4, Towns.TRADES);
        Towns.buildAll(town, Towns.PARK, 1, 3, 16, 20);
        for (int level = 0; level <= 3; level++) {
            Check.due("level", town.level(4), level);
            Check.due("workers with jobs", town.placed(0), 2 * level);
            Check.due("jobs that are taken", town.placed(4), 2 * level);
            town.pass(1);
        }
    }

    private static void otherNetsHaveNoJobs() {
        Edge.of("Terms", SAME_NET);
        MillbrookBorough town = Towns.street();
        town.build(0, Towns.HOMES);
        town.build(4, Towns.TRADES);
        town.pass(1);
        town.tear(10);
        Check.due("workers of the parted net", town.placed(0), 0);
        Check.due("jobs of the parted net", town.placed(4), 0);
        town.tear(8);
        Check.due("workers without a net", town.placed(0), 0);
        Towns.buildAll(town, Towns.ROAD, 8, 10);
        Check.due("workers of the mended net", town.placed(0), 2);
        town.tear(12);
        Check.due("jobs without a road", town.placed(4), 0);
    }

    /** The trades on 4 and 1: the distance 1 goes ahead of the lower number. */
    private static void nearerTradesFirst() {
        Edge.of("Terms", BY_DISTANCE);
        MillbrookBorough town = Towns.street();
        Towns.buildAll(town, Towns.TRADES, 0, 4);
        town.build(3, Towns.HOMES);
        town.pass(1);
        Check.due("to the near one", town.going(3, 4), 2);
        Check.due("to the far one", town.going(3, 0), 0);
        Check.due("jobs of the far one", town.placed(0), 0);
    }

    private static void nearerHomesFirst() {
        Edge.of("Terms", BY_DISTANCE);
        MillbrookBorough town = Towns.street();
        Towns.buildAll(town, Towns.HOMES, 0, 4);
        town.build(3, Towns.TRADES);
        town.pass(1);
        Check.due("from the near one", town.going(4, 3), 2);
        Check.due("from the far one", town.going(0, 3), 0);
        Check.due("workers of the far one", town.placed(0), 0);
    }

    /** The trades on 2 are 2 from the homes over the board, but 6 by road; those on 32 are 2 by road. */
    private static void theRoadCountsNotTheBoard() {
        Edge.of("Terms", BY_DISTANCE);
        MillbrookBorough town = Towns.drawn(0,
            "H.T",
            "#.#",
            "#.#",
            "####E",
            "T..W");
        town.pass(1);
        Check.due("steps to the trades on 2", town.steps(0, 2), 6);
        Check.due("steps to the trades on 32", town.steps(0, 32), 2);
        Check.due("workers who go to 2", town.going(0, 2), 0);
        Check.due("workers who go to 32", town.going(0, 32), 2);
    }

    private static void lowerHomesFirst() {
        Edge.of("Terms", SAME_DISTANCE);
        MillbrookBorough town = Towns.street();
        town.build(18, Towns.TRADES);
        Towns.buildAll(town, Towns.HOMES, 16, 4, 20, 0);
        town.pass(1);
        int[] homes = {0, 4, 16, 20};
        for (int home : homes) {
            Check.due("distance", town.steps(home, 18), 2);
            Check.due("from the homes on " + home, town.going(home, 18), home == 0 ? 2 : 0);
        }
        town.tear(0);
        Check.due("from the next of them", town.going(4, 18), 2);
        town.tear(4);
        Check.due("from the third of them", town.going(16, 18), 2);
        town.tear(16);
        Check.due("from the last of them", town.going(20, 18), 2);
    }

    private static void lowerTradesFirst() {
        Edge.of("Terms", SAME_DISTANCE);
        MillbrookBorough town = Towns.street();
        town.build(18, Towns.HOMES);
        Towns.buildAll(town, Towns.TRADES, 16, 4, 20, 0);
        town.pass(1);
        int[] trades = {0, 4, 16, 20};
        for (int trade : trades) {
            Check.due("distance", town.steps(18, trade), 2);
            Check.due("to the trades on " + trade, town.going(18, trade), trade == 0 ? 2 : 0);
        }
        town.tear(0);
        Check.due("to the next of them", town.going(18, 4), 2);
        town.tear(4);
        Check.due("to the third of them", town.going(18, 16), 2);
        town.tear(16);
        Check.due("to the last of them", town.going(18, 20), 2);
    }

    /** Homes on 2 that grow by parks; trades on 0 and 16 that stay at the level 1 for want of them. */
    private static void moreWorkersThanJobs() {
        Edge.of("Terms", AS_MANY);
        MillbrookBorough town = Towns.street();
        town.build(2, Towns.HOMES);
        Towns.buildAll(town, Towns.TRADES, 0, 16);
        Towns.buildAll(town, Towns.PARK, 3, 4);
        int[][] due = {{2, 2, 0}, {2, 2, 0}, {4, 2, 2}, {4, 2, 2}};
        for (int month = 0; month < due.length; month++) {
            town.pass(1);
            Check.due("workers with jobs, month " + month, town.placed(2), due[month][0]);
            Check.due("workers who go to the lower trades", town.going(2, 0), due[month][1]);
            Check.due("workers who go to the higher trades", town.going(2, 16), due[month][2]);
            Check.due("jobs taken of the lower trades", town.placed(0), due[month][1]);
            Check.due("jobs taken of the higher trades", town.placed(16), due[month][2]);
        }
        Check.due("level of the homes with 4 of 6 at work", town.level(2), 3);
    }

    private static void moreJobsThanWorkers() {
        Edge.of("Terms", AS_MANY);
        MillbrookBorough town = Towns.street();
        town.build(2, Towns.TRADES);
        Towns.buildAll(town, Towns.HOMES, 0, 16);
        Towns.buildAll(town, Towns.PARK, 3, 4);
        int[][] due = {{2, 2, 0}, {2, 2, 0}, {4, 2, 2}, {4, 2, 2}};
        for (int month = 0; month < due.length; month++) {
            town.pass(1);
            Check.due("jobs that are taken, month " + month, town.placed(2), due[month][0]);
            Check.due("workers who come from the lower homes", town.going(0, 2), due[month][1]);
            Check.due("workers who come from the higher homes", town.going(16, 2), due[month][2]);
            Check.due("placed of the lower homes", town.placed(0), due[month][1]);
            Check.due("placed of the higher homes", town.placed(16), due[month][2]);
        }
        Check.due("level of the trades with 4 of 6 taken", town.level(2), 3);
    }

    private static void noOneToPlace() {
        Edge.of("Terms", AS_MANY);
        MillbrookBorough town = Towns.street();
        Towns.buildAll(town, Towns.HOMES, 0, 2);
        town.pass(1);
        town.build(4, Towns.TRADES);
        Check.due("level of the homes", town.level(0), 1);
        Check.due("workers, with jobs of level 0", town.placed(0), 0);
        Check.due("jobs of level 0", town.placed(4), 0);
        Check.due("traffic of none", town.traffic(10), 0);
        town.tear(4);
        Check.due("workers without trades", town.placed(2), 0);
        Check.due("none goes", town.going(0, 4), 0);
    }

    /** Eight homes seek work first at nine trades of the level 0, and only then at those on 57, 11 steps off. */
    private static void manyPairsWithoutJobs() {
        Edge.of("Terms", AS_MANY);
        MillbrookBorough town = Towns.drawn(1000,
            "HHHHHHHH",
            "########",
            ".......#",
            ".......#",
            ".......#",
            "E......#",
            "########",
            "WT");
        town.pass(1);
        Towns.buildAll(town, Towns.TRADES, 16, 17, 18, 19, 20, 21, 22, 30, 38);
        Check.due("workers of the last homes, which are the nearest", town.going(7, 57), 2);
        Check.due("workers of the first homes", town.placed(0), 0);
        Check.due("jobs taken of the far trades", town.placed(57), 2);
        Check.due("jobs of the near trades", town.placed(16), 0);
        Check.due("traffic of the way", town.traffic(39), 2);
        town.pass(1);
        Check.due("level of the near trades", town.level(16), 1);
        town.pass(1);
        Check.due("level of the homes that found work", town.level(7), 1);
    }

    private static void oneRoadForBoth() {
        Edge.of("Terms", FIRST);
        MillbrookBorough town = Towns.street();
        town.build(0, Towns.HOMES);
        town.build(16, Towns.TRADES);
        town.pass(1);
        Check.due("steps", town.steps(0, 16), 0);
        Check.due("going", town.going(0, 16), 2);
        Check.due("traffic of the road of both", town.traffic(8), 2);
        Check.due("traffic of the next one", town.traffic(9), 0);
    }

    private static void dueTraffic(MillbrookBorough town, int due, int... roads) {
        for (int road : roads) {
            Check.due("traffic of the road " + road, town.traffic(road), due);
        }
    }

    private static void wayOfTheLowestNeighbours() {
        Edge.of("Terms", WAY);
        MillbrookBorough town = Towns.drawn(0,
            ".H......",
            ".####...",
            ".#..#...",
            ".#######",
            "....T.WE");
        town.pass(1);
        Check.due("steps", town.steps(1, 36), 5);
        dueTraffic(town, 2, 9, 10, 11, 12, 20, 28);
        dueTraffic(town, 0, 17, 25, 26, 27, 29, 30, 31);
        town.tear(11);
        dueTraffic(town, 2, 9, 17, 25, 26, 27, 28);
        dueTraffic(town, 0, 10, 12, 20, 29);
    }

    /** Two ways of 9 steps; the lowest neighbour of each end is not on the same one. */
    private static void theWayBackIsAnother() {
        Edge.of("Terms", WAY);
        String[] letters = {"H", "T"};
        for (int which = 0; which < 2; which++) {
            String there = letters[which];
            String here = letters[1 - which];
            MillbrookBorough town = Towns.drawn(0,
                "#####E",
                "#...#W",
                "#" + there + "###",
                "#.#" + here,
                "#.#",
                "###");
            town.pass(1);
            Check.due("steps", town.steps(17, 27), 9);
            dueTraffic(town, 2, 16, 19);
            dueTraffic(town, which == 0 ? 2 : 0, 8, 0, 1, 2, 3, 4, 12, 20);
            dueTraffic(town, which == 0 ? 0 : 2, 24, 32, 40, 41, 42, 34, 26, 18);
        }
    }

    /** The zone on 9 has the roads 1 and 10; the way goes by 1, though 10 is nearer. */
    private static void theWayFromTheLowestRoad() {
        Edge.of("Terms", FIRST);
        String[] letters = {"H", "T"};
        for (int which = 0; which < 2; which++) {
            MillbrookBorough town = Towns.drawn(0,
                ".##",
                "." + letters[which] + "####E",
                "...." + letters[1 - which] + "W");
            town.pass(1);
            Check.due("steps", town.steps(9, 20), 4);
            Check.due("steps back", town.steps(20, 9), 4);
            dueTraffic(town, 2, 1, 2, 10, 11, 12);
            dueTraffic(town, 0, 13);
        }
    }

    private static void allWhoGoOverIt() {
        Edge.of("Terms", ALL);
        MillbrookBorough town = Towns.street();
        Towns.buildAll(town, Towns.HOMES, 0, 1);
        Towns.buildAll(town, Towns.TRADES, 3, 4);
        dueTraffic(town, 0, 8, 9, 10, 11, 12);
        town.pass(1);
        Check.due("the inner two", town.going(1, 3), 2);
        Check.due("the outer two", town.going(0, 4), 2);
        dueTraffic(town, 2, 8, 12);
        dueTraffic(town, 4, 9, 10, 11);
        dueTraffic(town, 0, 13, 14);
        town.tear(4);
        dueTraffic(town, 2, 9, 10, 11);
        dueTraffic(town, 0, 8, 12);
    }
}
