/** Terms: power and water, and how they run short. */
final class EdgesOfSupply {
    private static final String GIVES =
        "Each power works gives its net 20 of power, each water works its net 20 of water.";
    private static final String NEEDS = "a zone needs as much power, and as much water, as its level tells,"
        + " and 1 of each at the level 0";
    private static final String TAKES = "if both are left, they are taken, and it is served";
    private static final String TAKES_NOTHING = "otherwise it is not, and takes nothing";
    private static final String ORDER = "zones that belong to it are gone through by rising numbers";

    private EdgesOfSupply() {
    }

    static void all() {
        worksGiveTwenty();
        worksWithoutARoadGiveNothing();
        worksBetweenTwoNetsGiveToOne();
        levelZeroNeedsOneOfEach();
        eachLevelNeedsItsNumber();
        twentyZonesAndOneMore();
        justEnoughIsTaken(false);
        justEnoughIsTaken(true);
        oneTooFewIsNotTaken(false);
        oneTooFewIsNotTaken(true);
        withoutTheOtherNothingIsTaken();
        whoLacksPowerLeavesTheWater();
        lowerZonesGoFirst();
        netsDoNotShare();
    }

    private static void worksGiveTwenty() {
        Edge.of("Terms", GIVES);
        MillbrookBorough town = Towns.drawn(0, "####", "EEEW");
        Check.due("power of three works", town.powerLeft(0), 60);
        town.tear(8);
        Check.due("power of two works", town.powerLeft(0), 40);
        town.tear(9);
        town.tear(10);
        Check.due("power of none", town.powerLeft(0), 0);
    }

    private static void worksWithoutARoadGiveNothing() {
        Edge.of("Terms", GIVES);
        MillbrookBorough town = Towns.drawn(0, "#HEW");
        Check.due("power of works behind a zone", town.powerLeft(0), 0);
        Check.due("is served", town.isServed(1), false);
        town.build(10, Towns.ROAD);
        Check.due("power in a net of their own", town.powerLeft(10), 20);
        Check.due("none for the other", town.powerLeft(0), 0);
        Towns.buildAll(town, Towns.ROAD, 8, 9);
        Check.due("power of the joined net, without water", town.powerLeft(0), 20);
        town.build(11, Towns.ROAD);
        Check.due("power of the joined net, with water", town.powerLeft(0), 19);
        Check.due("is served then", town.isServed(1), true);
    }

    private static void worksBetweenTwoNetsGiveToOne() {
        Edge.of("Terms", GIVES);
        MillbrookBorough town = Towns.drawn(200, "E#W#E", ".H.H.");
        Check.due("power of the lower net, with water", town.powerLeft(1), 19);
        Check.due("power of the other, without water", town.powerLeft(3), 20);
        Check.due("homes of the lower net", town.isServed(9), true);
        Check.due("homes of the other", town.isServed(11), false);
        town = Towns.drawn(0, "#E#");
        Check.due("power of the lower net", town.powerLeft(0), 20);
        Check.due("power of the other", town.powerLeft(2), 0);
        Check.due("power told at the works", town.powerLeft(1), 20);
    }

    private static void levelZeroNeedsOneOfEach() {
        Edge.of("Terms", NEEDS);
        MillbrookBorough town = Towns.street();
        town.build(0, Towns.HOMES);
        Check.due("power behind homes of level 0", town.powerLeft(8), 19);
        town.build(1, Towns.TRADES);
        Check.due("power behind trades of level 0", town.powerLeft(8), 18);
        town.build(2, Towns.PARK);
        Check.due("power behind a park", town.powerLeft(8), 18);
    }

    private static void eachLevelNeedsItsNumber() {
        Edge.of("Terms", NEEDS);
        MillbrookBorough town = Towns.street();
        town.build(0, Towns.HOMES);
        town.build(4, Towns.TRADES);
        Towns.buildAll(town, Towns.PARK, 1, 3, 16, 20);
        int[] left = {18, 18, 16, 14, 14};
        for (int month = 0; month < left.length; month++) {
            Check.due("level", town.level(0), Math.min(month, 3));
            Check.due("power left", town.powerLeft(8), left[month]);
            Check.due("homes are served", town.isServed(0), true);
            Check.due("trades are served", town.isServed(4), true);
            town.pass(1);
        }
    }

    /** Twenty zones of the level 0, the highest of them on 53; room for more on 22, 54 and 55. */
    private static MillbrookBorough twenty() {
        return Towns.drawn(1000,
            "HTHTHTHT",
            "########",
            "THTHTH.#",
            "......E#",
            "......W#",
            "########",
            "TTTHHH..");
    }

    private static void twentyZonesAndOneMore() {
        Edge.of("Terms", TAKES);
        MillbrookBorough town = twenty();
        Check.due("the 20th zone", town.isServed(53), true);
        Check.due("all is taken", town.powerLeft(8), 0);
        town.build(54, Towns.TRADES);
        Check.due("the 21st zone", town.isServed(54), false);
        Check.due("the 20th zone as before", town.isServed(53), true);
        Check.due("nothing is left", town.powerLeft(8), 0);
        town.tear(54);
        town.tear(53);
        Check.due("one is left", town.powerLeft(8), 1);
    }

    private static void lowerZonesGoFirst() {
        Edge.of("Terms", ORDER);
        MillbrookBorough town = twenty();
        town.build(22, Towns.HOMES);
        Check.due("the new zone in the midst", town.isServed(22), true);
        for (int cell = 0; cell < 53; cell++) {
            boolean isZone = town.kind(cell) == Towns.HOMES || town.kind(cell) == Towns.TRADES;
            Check.due("the zone on " + cell, town.isServed(cell), isZone);
        }
        Check.due("the highest one", town.isServed(53), false);
        town.tear(0);
        Check.due("the highest one behind a tear", town.isServed(53), true);
    }

    /**
     * Homes on 57 and trades on 59, of the level 3 both, and some zones of the level 0 on lower cells.
     * One of power and water comes from one of the works, the other from two; 62 and 63 are free.
     */
    private static MillbrookBorough crowded(int zones, boolean isWaterScarce) {
        MillbrookBorough town = Towns.drawn(1000,
            "",
            "########",
            ".......#",
            ".......#",
            "......E#",
            "......W#",
            "########",
            "PHPTP");
        town.pass(3);
        Check.due("level of the homes", town.level(57), 3);
        Check.due("level of the trades", town.level(59), 3);
        town.build(30, isWaterScarce ? Towns.POWER : Towns.WATER);
        for (int zone = 0; zone < zones; zone++) {
            int cell = zone < 8 ? zone : zone < 15 ? 16 + zone - 8 : 40 + zone - 15;
            town.build(cell, zone % 2 == 0 ? Towns.HOMES : Towns.TRADES);
        }
        return town;
    }

    private static void justEnoughIsTaken(boolean isWaterScarce) {
        Edge.of("Terms", TAKES);
        int spare = isWaterScarce ? 20 : 0;
        MillbrookBorough town = crowded(14, isWaterScarce);
        Check.due("homes behind 14", town.isServed(57), true);
        Check.due("trades with just 3 left", town.isServed(59), true);
        Check.due("power of both", town.powerLeft(8), spare);
        town = crowded(17, isWaterScarce);
        Check.due("homes with just 3 left", town.isServed(57), true);
        Check.due("trades with none left", town.isServed(59), false);
        Check.due("power of one", town.powerLeft(8), spare);
    }

    private static void oneTooFewIsNotTaken(boolean isWaterScarce) {
        Edge.of("Terms", TAKES_NOTHING);
        int spare = isWaterScarce ? 20 : 0;
        MillbrookBorough town = crowded(18, isWaterScarce);
        Check.due("homes of level 3 with 2 left", town.isServed(57), false);
        Check.due("trades of level 3 with 2 left", town.isServed(59), false);
        Check.due("what they do not take", town.powerLeft(8), spare + 2);
        town.build(62, Towns.HOMES);
        Check.due("homes of level 0 behind them", town.isServed(62), true);
        Check.due("what these leave", town.powerLeft(8), spare + 1);
        town.build(63, Towns.TRADES);
        Check.due("trades of level 0 behind them", town.isServed(63), true);
        Check.due("what is left then", town.powerLeft(8), spare);
    }

    private static void withoutTheOtherNothingIsTaken() {
        Edge.of("Terms", TAKES_NOTHING);
        MillbrookBorough town = Towns.drawn(0, "H.T.", "####", "EW");
        town.tear(17);
        Check.due("homes with power alone", town.isServed(0), false);
        Check.due("trades with power alone", town.isServed(2), false);
        Check.due("power without water", town.powerLeft(8), 20);
        town.build(17, Towns.WATER);
        town.tear(16);
        Check.due("homes with water alone", town.isServed(0), false);
        Check.due("power with water alone", town.powerLeft(8), 0);
    }

    /**
     * Eight zones of the level 3 lose one of two power works: 15 zones of the level 0 and the first of
     * the eight leave 2 of power and 22 of water. If the other seven took their water, 1 would be left.
     */
    private static void whoLacksPowerLeavesTheWater() {
        Edge.of("Terms", TAKES_NOTHING);
        MillbrookBorough town = Towns.drawn(2000,
            "",
            "########",
            "......P#",
            "PHPHHPH#",
            "########",
            "PTPTTPT#",
            "########",
            "EWEW..P.");
        town.pass(3);
        Check.due("power when all are served", town.powerLeft(8), 40 - 8 * 3);
        town.tear(22);
        town.tear(58);
        Towns.buildAll(town, Towns.HOMES, 0, 1, 2, 3, 4, 5, 6, 7, 16, 17, 18, 19, 20, 21, 22);
        Check.due("the first of level 3", town.isServed(25), true);
        int[] others = {27, 28, 30, 41, 43, 44, 46};
        for (int cell : others) {
            Check.due("level", town.level(cell), 3);
            Check.due("another of level 3", town.isServed(cell), false);
        }
        Check.due("power left", town.powerLeft(8), 2);
        Towns.buildAll(town, Towns.TRADES, 60, 63);
        Check.due("the one of level 0 behind them", town.isServed(60), true);
        Check.due("the other of level 0 behind them", town.isServed(63), true);
        Check.due("power left then", town.powerLeft(8), 0);
    }

    private static void netsDoNotShare() {
        Edge.of("Terms", "In each net");
        MillbrookBorough town = Towns.drawn(0, "H##.##H", ".E...W.");
        Check.due("homes where the power is", town.isServed(0), false);
        Check.due("homes where the water is", town.isServed(6), false);
        Check.due("power here", town.powerLeft(1), 20);
        Check.due("power there", town.powerLeft(5), 0);
        town.build(3, Towns.ROAD);
        Check.due("homes at one end of the joined net", town.isServed(0), true);
        Check.due("homes at the other end", town.isServed(6), true);
        Check.due("power of the joined net", town.powerLeft(5), 18);
        town.tear(3);
        Check.due("homes of the parted net", town.isServed(6), false);
    }
}
