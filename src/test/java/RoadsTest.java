/** Promises 14 and 15: nets and the distance by road. */
public final class RoadsTest {
    public static void main(String[] args) {
        netsOfCells();
        lowestRoadOfACell();
        edgesOfTheBoard();
        tornRoadsPartNets();
        stepsGoTheShortestWay();
        refusals();
        Check.end();
    }

    private static void netsOfCells() {
        MillbrookBorough town = new MillbrookBorough();
        Towns.buildAll(town, Towns.ROAD, 18, 10, 11, 61);
        town.build(17, Towns.PARK);
        Check.due("net of a road", town.net(18), 10);
        Check.due("net of the lowest", town.net(10), 10);
        Check.due("net of another road", town.net(61), 61);
        Check.due("net of a park", town.net(17), 10);
        Check.due("net of an empty cell", town.net(3), 10);
        Check.due("net of a cell that is not beside", town.net(0), -1);
        Check.due("net of a cell that is aslant", town.net(1), -1);
        town.build(19, Towns.ROAD);
        Check.due("net of a road built later", town.net(19), 10);
        town.build(2, Towns.ROAD);
        Check.due("net with a new lowest cell", town.net(19), 2);
    }

    private static void lowestRoadOfACell() {
        MillbrookBorough town = new MillbrookBorough();
        town.build(17, Towns.ROAD);
        Check.due("only the road below", town.net(9), 17);
        town.build(10, Towns.ROAD);
        Check.due("the road at the right", town.net(9), 10);
        town.build(8, Towns.ROAD);
        Check.due("the road at the left", town.net(9), 8);
        town.build(1, Towns.ROAD);
        Check.due("the road above", town.net(9), 1);
        Check.due("a road has itself", town.net(17), 17);
    }

    private static void edgesOfTheBoard() {
        MillbrookBorough town = new MillbrookBorough();
        Towns.buildAll(town, Towns.ROAD, 7, 8);
        Check.due("the end of a row", town.net(7), 7);
        Check.due("the begin of the next", town.net(8), 8);
        Check.due("cell 15 is below 7", town.net(15), 7);
        Check.due("cell 16 is below 8", town.net(16), 8);
        Check.due("steps from row to row", town.steps(7, 8), -1);
        Check.due("steps back from row to row", town.steps(8, 7), -1);
        Towns.buildAll(town, Towns.ROAD, 56, 63);
        Check.due("the corner below", town.net(62), 63);
        Check.due("cell 55", town.net(55), 63);
        Check.due("cell 57", town.net(57), 56);
        Check.due("cell 48", town.net(48), 56);
        Check.due("cell 0", town.net(0), 8);
    }

    private static void tornRoadsPartNets() {
        MillbrookBorough town = new MillbrookBorough();
        Towns.buildAll(town, Towns.ROAD, 0, 1, 2, 3, 4);
        Check.due("net", town.net(4), 0);
        Check.due("steps", town.steps(0, 4), 4);
        town.tear(2);
        Check.due("net left", town.net(1), 0);
        Check.due("net right", town.net(4), 3);
        Check.due("net of the gap", town.net(2), 0);
        Check.due("steps over the gap", town.steps(0, 4), -1);
        Check.due("steps of the gap's road", town.steps(2, 0), 1);
    }

    private static void stepsGoTheShortestWay() {
        MillbrookBorough town = new MillbrookBorough();
        Towns.buildAll(town, Towns.ROAD, 0, 1, 2, 3, 8, 16, 17, 18, 19);
        Check.due("steps of a road to itself", town.steps(18, 18), 0);
        Check.due("steps to a neighbour", town.steps(0, 8), 1);
        Check.due("steps round", town.steps(3, 19), 8);
        Check.due("and back", town.steps(19, 3), 8);
        town.build(11, Towns.ROAD);
        Check.due("steps by the new road", town.steps(3, 19), 2);
        Check.due("steps within the ring", town.steps(1, 17), 4);
        Check.due("steps of other cells", town.steps(4, 27), 2);
        Check.due("steps of a cell and its road", town.steps(4, 3), 0);
        Check.due("steps of two cells with one road", town.steps(24, 24), 0);
        Check.due("steps of a cell without a road", town.steps(63, 63), -1);
        Check.due("steps to a cell without a road", town.steps(0, 63), -1);
        Check.due("steps from a cell without a road", town.steps(63, 0), -1);
    }

    private static void refusals() {
        MillbrookBorough town = new MillbrookBorough();
        int[] cells = {-1, 64, Integer.MIN_VALUE, Integer.MAX_VALUE};
        for (int cell : cells) {
            Check.dueThrow("net", Check.INDEX, () -> town.net(cell));
            Check.dueThrow("steps from", Check.INDEX, () -> town.steps(cell, 0));
            Check.dueThrow("steps to", Check.INDEX, () -> town.steps(0, cell));
        }
    }
}
