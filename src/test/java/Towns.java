/** Towns that several tests begin with. */
final class Towns {
    static final int ROAD = 1;
    static final int HOMES = 2;
    static final int TRADES = 3;
    static final int PARK = 4;
    static final int POWER = 5;
    static final int WATER = 6;

    private Towns() {
    }

    static void buildAll(MillbrookBorough town, int kind, int... cells) {
        for (int cell : cells) {
            town.build(cell, kind);
        }
    }

    /**
     * Roads 8 to 14, power works on 15 and water works on 6, so that the cells of the columns 0 to 4
     * are too far from the power works to lose value by them. Cash 580, upkeep 27 a month.
     */
    static MillbrookBorough street() {
        MillbrookBorough town = new MillbrookBorough();
        buildAll(town, ROAD, 8, 9, 10, 11, 12, 13, 14);
        town.build(15, POWER);
        town.build(6, WATER);
        return town;
    }
}
