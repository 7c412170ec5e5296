/** Terms: the board with its borders, the kinds and levels, and the nets of roads. */
final class EdgesOfBoard {
    private EdgesOfBoard() {
    }

    static void all() {
        cellsHaveTheirNumbers();
        cornersHaveTwoNeighbours();
        aRowsEndIsNotTheNextOnesBegin();
        distanceIsThatOfRowsAndColumnsTogether();
        kindsHaveTheirNumbers();
        aNewZoneHasLevelZero();
        aLevelStaysWithinItsBounds();
        oneRoadIsANet();
        roadsAslantAreTwoNets();
        aNetIsToldByItsLowestCell();
        aBoardFullOfRoadsIsOneNet();
        theRoadIsTheLowestNeighbour();
        aCellWithoutARoadBelongsToNoNet();
        aCellBetweenTwoNetsBelongsToOne();
        stepsAreTheLeastNumber();
        theLongestWay();
    }

    private static int distance(int one, int other) {
        return Math.abs(one / 8 - other / 8) + Math.abs(one % 8 - other % 8);
    }

    private static void cellsHaveTheirNumbers() {
        Edge.of("Terms", "a cell has the number 8 * row + column");
        MillbrookBorough town = new MillbrookBorough();
        town.build(8 * 1 + 7, Towns.ROAD);
        Check.due("net of the cell above", town.net(8 * 0 + 7), 15);
        Check.due("net of the cell below", town.net(8 * 2 + 7), 15);
        Check.due("net of the cell at the left", town.net(8 * 1 + 6), 15);
        Check.due("net of the next number", town.net(16), -1);
    }

    private static void cornersHaveTwoNeighbours() {
        Edge.of("Terms", "Its neighbours are the cells above, below, left and right of it.");
        for (int road = 0; road < 64; road++) {
            MillbrookBorough town = new MillbrookBorough();
            town.build(road, Towns.ROAD);
            int beside = 0;
            for (int cell = 0; cell < 64; cell++) {
                boolean isNear = distance(road, cell) <= 1;
                Check.due("net of " + cell + " by the road " + road, town.net(cell), isNear ? road : -1);
                beside += town.net(cell) >= 0 && cell != road ? 1 : 0;
            }
            boolean atRowsEnd = road % 8 == 0 || road % 8 == 7;
            boolean atColumnsEnd = road / 8 == 0 || road / 8 == 7;
            Check.due("neighbours of " + road, beside, 4 - (atRowsEnd ? 1 : 0) - (atColumnsEnd ? 1 : 0));
        }
    }

    private static void aRowsEndIsNotTheNextOnesBegin() {
        Edge.of("Terms", "Its neighbours are the cells above, below, left and right of it.");
        for (int end = 7; end < 63; end += 8) {
            MillbrookBorough town = new MillbrookBorough();
            Towns.buildAll(town, Towns.ROAD, end, end + 1);
            Check.due("net of a row's end", town.net(end), end);
            Check.due("net of the next one's begin", town.net(end + 1), end + 1);
            Check.due("steps from row to row", town.steps(end, end + 1), -1);
        }
    }

    private static void distanceIsThatOfRowsAndColumnsTogether() {
        Edge.of("Terms",
            "The distance of two cells is the difference of their rows and that of their columns, together.");
        for (int park = 0; park < 64; park++) {
            MillbrookBorough town = new MillbrookBorough();
            town.build(park, Towns.PARK);
            for (int cell = 0; cell < 64; cell++) {
                Check.due("value of " + cell + " by the park " + park, town.value(cell),
                    distance(park, cell) <= 2 ? 15 : 10);
            }
        }
    }

    private static void kindsHaveTheirNumbers() {
        Edge.of("Terms", "A cell is empty (0), a road (1), a zone for homes (2), a zone for trades (3), a park (4),"
            + " power works (5) or water works (6).");
        MillbrookBorough town = Towns.drawn(0, ".#HTPEW");
        for (int kind = 0; kind <= 6; kind++) {
            Check.due("kind", town.kind(kind), kind);
        }
        Check.due("a road is one", town.net(1), 1);
        Check.due("a park is one", town.value(12), 5);
        Check.due("homes and trades need power: none is taken", town.powerLeft(2), 0);
        Check.due("all but the zones pay upkeep", town.pass(1), -1 - 2 - 10 - 10);
    }

    private static void aNewZoneHasLevelZero() {
        Edge.of("Terms", "A zone has a level from 0 to 3, 0 at first.");
        MillbrookBorough town = Towns.grown(Towns.HOMES, Towns.TRADES);
        Check.due("the highest level", town.level(0), 3);
        town.build(2, Towns.TRADES);
        Check.due("level of a new zone in a town of months", town.level(2), 0);
        town.tear(0);
        Check.due("level of what was torn", town.level(0), 0);
        town.build(0, Towns.HOMES);
        Check.due("level of a zone on a torn one", town.level(0), 0);
    }

    private static void aLevelStaysWithinItsBounds() {
        Edge.of("Terms", "A zone has a level from 0 to 3, 0 at first.");
        MillbrookBorough town = Towns.grown(Towns.TRADES, Towns.HOMES);
        town.build(63, Towns.HOMES);
        town.setTax(false, 20);
        Towns.buildAll(town, Towns.PARK, 2, 5);
        for (int month = 0; month < 24; month++) {
            town.pass(1);
            Check.due("level that could grow no more", town.level(4), 3);
            Check.due("level that could fall no more", town.level(63), 0);
        }
    }

    private static void oneRoadIsANet() {
        Edge.of("Terms", "Roads that are neighbours belong to one net; it is told by its lowest cell.");
        MillbrookBorough town = Towns.drawn(0, "", "", "", "", "", "", "", ".......#");
        Check.due("net of one road", town.net(63), 63);
        Check.due("net of the cell above it", town.net(55), 63);
        Check.due("net of the cell at its left", town.net(62), 63);
        Check.due("steps of one road", town.steps(63, 63), 0);
        Check.due("steps of its neighbours", town.steps(55, 62), 0);
        Check.due("power of one road without works", town.powerLeft(63), 0);
    }

    private static void roadsAslantAreTwoNets() {
        Edge.of("Terms", "Roads that are neighbours belong to one net; it is told by its lowest cell.");
        MillbrookBorough town = Towns.drawn(0, "#.#", ".#.", "#.#");
        int[] roads = {0, 2, 9, 16, 18};
        for (int road : roads) {
            Check.due("net of the road " + road, town.net(road), road);
            Check.due("steps to a road aslant", town.steps(road, 9), road == 9 ? 0 : -1);
        }
    }

    private static void aNetIsToldByItsLowestCell() {
        Edge.of("Terms", "it is told by its lowest cell");
        MillbrookBorough town = Towns.drawn(0, "....", "...#", ".###", ".#..", ".##.");
        int[] roads = {11, 17, 18, 19, 25, 33, 34};
        for (int road : roads) {
            Check.due("net of the road " + road, town.net(road), 11);
        }
        Check.due("net of a cell beside the highest road", town.net(42), 11);
        town.build(3, Towns.ROAD);
        Check.due("net with a lower road", town.net(34), 3);
        town.tear(3);
        Check.due("net without it", town.net(34), 11);
        town.tear(18);
        Check.due("net that was parted, of the upper", town.net(19), 11);
        Check.due("net that was parted, of the lower", town.net(34), 17);
    }

    private static void aBoardFullOfRoadsIsOneNet() {
        Edge.of("Terms", "Roads that are neighbours belong to one net");
        MillbrookBorough town = new MillbrookBorough();
        for (int cell = 63; cell >= 0; cell--) {
            town.build(cell, Towns.ROAD);
        }
        for (int cell = 0; cell < 64; cell++) {
            Check.due("net of a full board", town.net(cell), 0);
            Check.due("steps of a full board", town.steps(cell, 63), distance(cell, 63));
        }
        Check.due("cash of a full board", town.cash(), 360);
        Check.due("upkeep of a full board", town.pass(1), -64);
    }

    /** The four neighbours of 27 are none of one another, so each of them is a net of its own. */
    private static void theRoadIsTheLowestNeighbour() {
        Edge.of("Terms",
            "The road of another cell is the lowest one of its neighbours that are roads, if there is one");
        int[] sides = {19, 26, 28, 35};
        for (int which = 0; which < 16; which++) {
            MillbrookBorough town = new MillbrookBorough();
            int lowest = -1;
            for (int side = 3; side >= 0; side--) {
                if ((which >> side & 1) == 1) {
                    town.build(sides[side], Towns.ROAD);
                    lowest = sides[side];
                }
            }
            Check.due("net of an empty cell between roads", town.net(27), lowest);
            Check.due("steps from it to its road", lowest < 0 ? 0 : town.steps(27, lowest), 0);
            town.build(27, Towns.HOMES);
            Check.due("net of a zone between roads", town.net(27), lowest);
        }
    }

    private static void aCellWithoutARoadBelongsToNoNet() {
        Edge.of("Terms",
            "The road of another cell is the lowest one of its neighbours that are roads, if there is one");
        MillbrookBorough town = Towns.drawn(0, "H.T", "...", "#PE", ".W.");
        int[] cells = {0, 1, 2, 9, 10, 18, 63};
        for (int cell : cells) {
            Check.due("net of " + cell, town.net(cell), -1);
            Check.due("steps of " + cell, town.steps(cell, cell), -1);
            Check.due("steps from it to a road", town.steps(cell, 16), -1);
            Check.due("is served", town.isServed(cell), false);
            Check.due("power left", town.powerLeft(cell), 0);
        }
        Check.due("net of the park beside the road", town.net(17), 16);
        Check.due("power of works without a road", town.powerLeft(16), 0);
    }

    private static void aCellBetweenTwoNetsBelongsToOne() {
        Edge.of("Terms", "the cell belongs to the net of its road");
        MillbrookBorough town = Towns.drawn(200, "E#.#E", "W.H.W");
        Check.due("net of the zone between", town.net(10), -1);
        town.build(2, Towns.PARK);
        Check.due("net of the park between", town.net(2), 1);
        Check.due("steps to the one", town.steps(2, 1), 0);
        Check.due("steps to the other", town.steps(2, 3), -1);
        town.build(18, Towns.ROAD);
        town.build(11, Towns.ROAD);
        Check.due("the road at its right is lower than that below", town.net(10), 3);
        town.build(9, Towns.ROAD);
        Check.due("the road at its left is lower yet", town.net(10), 1);
        Check.due("it takes power of the one", town.powerLeft(1), 19);
        Check.due("and none of the other", town.powerLeft(3), 20);
    }

    private static void stepsAreTheLeastNumber() {
        Edge.of("Terms",
            "The distance by road of two roads of one net is the least number of steps from one to the other"
            + " over roads.");
        MillbrookBorough town = Towns.drawn(0, "######", "#....#", "#.##.#", "#..#.#", "#..###", "##....");
        Check.due("to itself", town.steps(0, 0), 0);
        Check.due("to a neighbour", town.steps(0, 1), 1);
        Check.due("round", town.steps(40, 18), 19);
        Check.due("and back", town.steps(18, 40), 19);
        town.build(42, Towns.ROAD);
        town.build(34, Towns.ROAD);
        Check.due("by a shorter way", town.steps(40, 18), 7);
        Check.due("to what is as far both ways", town.steps(0, 36), 10);
        town.tear(1);
        Check.due("by the way that is left", town.steps(0, 2), 18);
    }

    /** Four rows of roads, joined at their ends. */
    private static void theLongestWay() {
        Edge.of("Terms",
            "The distance by road of two roads of one net is the least number of steps from one to the other"
            + " over roads.");
        MillbrookBorough town = Towns.drawn(0,
            "########",
            ".......#",
            "########",
            "#.......",
            "########",
            ".......#",
            "########",
            "#.......");
        Check.due("steps from end to end", town.steps(0, 56), 35);
        Check.due("steps back", town.steps(56, 0), 35);
        Check.due("steps of cells beside the ends", town.steps(8, 57), 33);
        Check.due("net of the end", town.net(56), 0);
    }
}
