/** Towns that several tests begin with. */
final class Towns {
    static final int ROAD = 1;
    static final int HOMES = 2;
    static final int TRADES = 3;
    static final int PARK = 4;
    static final int POWER = 5;
    static final int WATER = 6;

    private static final String SIGNS = ".#HTPEW";
    private static final int[] COSTS = {0, 10, 20, 20, 30, 200, 150};

    private Towns() {
    }

    static int costOf(int kind) {
        return COSTS[kind];
    }

    static void buildAll(MillbrookBorough town, int kind, int... cells) {
        for (int cell : cells) {
            town.build(cell, kind);
        }
    }

    static void borrowAll(MillbrookBorough town, int loan) {
        for (int left = loan; left > 0; left -= 1000) {
            town.borrow(Math.min(left, 1000));
        }
    }

    /**
     * A town as it is drawn, a text for each row from the uppermost on: # a road, H homes, T trades,
     * P a park, E power works, W water works. The loan is taken first.
     */
    static MillbrookBorough drawn(int loan, String... rows) {
        MillbrookBorough town = new MillbrookBorough();
        borrowAll(town, loan);
        for (int row = 0; row < rows.length; row++) {
            for (int column = 0; column < rows[row].length(); column++) {
                int kind = SIGNS.indexOf(rows[row].charAt(column));
                if (kind > 0) {
                    town.build(8 * row + column, kind);
                }
            }
        }
        return town;
    }

    /**
     * Roads 8 to 14, power works on 15 and water works on 6, so that the cells of the columns 0 to 4
     * are too far from the power works to lose value by them. Cash 580, upkeep 27 a month.
     */
    static MillbrookBorough street() {
        return drawn(0,
            "......W.",
            "#######E");
    }

    /** Zones on 0 and 4, both of the level 3; parks on 1, 3, 16 and 20. */
    static MillbrookBorough grown(int left, int right) {
        MillbrookBorough town = street();
        town.build(0, left);
        town.build(4, right);
        buildAll(town, PARK, 1, 3, 16, 20);
        town.pass(3);
        return town;
    }

    /** Homes on 0 and trades on 63, of the level 1; their roads are 8 and 55, 12 steps apart. */
    static MillbrookBorough corners(boolean homesFirst) {
        MillbrookBorough town = drawn(0,
            homesFirst ? "H" : "T",
            "#",
            "#",
            "#E",
            "#W",
            "#",
            "########",
            homesFirst ? ".......T" : ".......H");
        town.pass(1);
        return town;
    }

    /** Roads from 0 over 7 to 63, with 2 workers who go all the way. */
    static MillbrookBorough longWay() {
        MillbrookBorough town = drawn(0,
            "########",
            "H...EW.#",
            ".......#",
            ".......#",
            ".......#",
            ".......#",
            ".......#",
            "......T#");
        town.pass(1);
        return town;
    }

    /**
     * Homes on 17 and trades on 21 of the level 3, homes on 1 and trades on 5 of the level 2; all go over
     * the roads 9 to 13, with traffic of 10. The latter have two parks each, so their value is 10, and
     * a park on 3 adds to that of both.
     */
    static MillbrookBorough twoPairs() {
        MillbrookBorough town = drawn(0,
            "P.P.P.P.",
            "#######E",
            "PHW..TP.",
            ".P...P..");
        town.pass(3);
        town.build(1, HOMES);
        town.build(5, TRADES);
        town.pass(2);
        return town;
    }
}
