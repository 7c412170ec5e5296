/** Terms: how the levels change at the end of a month. */
final class EdgesOfGrowth {
    private static final String AT_ONCE = "Then levels change, all at once";
    private static final String NOT_SERVED =
        "a zone that is not served, or belongs to no net, falls by 1, or stays at the level 0";
    private static final String HOMES_FALL =
        "a zone for homes falls by 1 if more than half of its workers have no job";
    private static final String TRADES_FALL =
        "a zone for trades falls by 1 if its level is above 0 and none of its jobs is taken";
    private static final String CASH = "Otherwise, if the cash is 0 or more";
    private static final String BELOW_THREE = "a zone of a level below 3";
    private static final String VALUE = "whose value is at least 5 * (its level + 1) grows by 1";
    private static final String FULL = "if it is for homes and all its workers have jobs,"
        + " or it is for trades and all its jobs are taken";
    private static final String LEVEL_ZERO = "at the level 0 both is so";

    private EdgesOfGrowth() {
    }

    static void all() {
        newJobsComeTooLate();
        newNeedsComeTooLate();
        notServedFallsToZero();
        notServedFallsThoughAllWork();
        withoutANetFallsToZero();
        tooLittleSupplyMakesOneFall();
        homesWithHalfAtWorkStay();
        homesWithoutJobsFall();
        tradesWithSomeTakenStay();
        tradesWithNoneTakenFall();
        cashOfJustZero(62, 1);
        cashOfJustZero(61, 0);
        cashThatComesToZero(3, 1);
        cashThatComesToZero(2, 0);
        cashBelowZeroStopsNoFall();
        threeIsTheHighest(Towns.HOMES, Towns.TRADES);
        threeIsTheHighest(Towns.TRADES, Towns.HOMES);
        valueOfFourAtLevelZero(Towns.HOMES);
        valueOfFourAtLevelZero(Towns.TRADES);
        valueOfFiveAtLevelZero(Towns.HOMES);
        valueOfFiveAtLevelZero(Towns.TRADES);
        valueOfNineAtLevelOne();
        valueOfTenAtLevelOne();
        valueOfFourteenAtLevelTwo();
        valueOfFifteenAtLevelTwo();
        allMustWork();
        allMustBeTaken();
        levelZeroNeedsNoOne();
    }

    private static void dueLevels(MillbrookBorough town, int due, int... cells) {
        for (int cell : cells) {
            Check.due("level of " + cell, town.level(cell), due);
        }
    }

    /** Were the levels changed one by one, the homes would find the new jobs of the lower zone. */
    private static void newJobsComeTooLate() {
        Edge.of("Terms", AT_ONCE);
        MillbrookBorough town = Towns.street();
        town.build(2, Towns.HOMES);
        town.pass(1);
        town.build(0, Towns.TRADES);
        town.pass(1);
        dueLevels(town, 1, 0);
        dueLevels(town, 0, 2);
    }

    /** 20 are needed when the month begins, 22 when it has ended: the last two are served, and grow. */
    private static void newNeedsComeTooLate() {
        Edge.of("Terms", AT_ONCE);
        MillbrookBorough town = Towns.drawn(1000,
            "HPPPT...",
            "#######E",
            "......#W",
            "......#.",
            "......#.",
            "########",
            "........",
            "........");
        town.pass(1);
        dueLevels(town, 1, 0, 4);
        Towns.buildAll(town, Towns.HOMES, 16, 17, 18, 19, 32, 33, 34, 35, 36, 37);
        Towns.buildAll(town, Towns.TRADES, 48, 49, 50, 51, 52, 53, 54, 55);
        Check.due("all is taken", town.powerLeft(8), 0);
        Check.due("the last one is served", town.isServed(55), true);
        town.pass(1);
        dueLevels(town, 2, 0, 4);
        dueLevels(town, 1, 16, 19, 53, 54, 55);
        Check.due("the last but two is served", town.isServed(53), true);
        Check.due("the last but one is served no more", town.isServed(54), false);
        Check.due("the last one is served no more", town.isServed(55), false);
    }

    private static void notServedFallsToZero() {
        Edge.of("Terms", NOT_SERVED);
        int[] works = {6, 15};
        for (int cell : works) {
            MillbrookBorough town = Towns.grown(Towns.HOMES, Towns.TRADES);
            town.tear(cell);
            int[] due = {2, 1, 0, 0, 0};
            for (int level : due) {
                town.pass(1);
                dueLevels(town, level, 0, 4);
            }
        }
    }

    private static void notServedFallsThoughAllWork() {
        Edge.of("Terms", NOT_SERVED);
        MillbrookBorough town = Towns.grown(Towns.TRADES, Towns.HOMES);
        town.tear(6);
        Check.due("workers with jobs", town.placed(4), 6);
        town.pass(1);
        dueLevels(town, 2, 0, 4);
        Check.due("workers with jobs then", town.placed(4), 4);
    }

    /** Not served, without a net and without work or workers: it falls by 1 all the same, not by more. */
    private static void withoutANetFallsToZero() {
        Edge.of("Terms", NOT_SERVED);
        MillbrookBorough town = Towns.grown(Towns.HOMES, Towns.TRADES);
        Towns.buildAll(town, Towns.HOMES, 63);
        town.tear(8);
        town.tear(12);
        int[] due = {2, 1, 0, 0};
        for (int level : due) {
            town.pass(1);
            dueLevels(town, level, 0, 4);
            dueLevels(town, 0, 63);
        }
    }

    /** 17 lower zones leave 3 of power and of water: enough for the homes on 57, none for the trades on 59. */
    private static void tooLittleSupplyMakesOneFall() {
        Edge.of("Terms", NOT_SERVED);
        MillbrookBorough town = Towns.drawn(1000,
            "",
            "########",
            ".......#",
            ".......#",
            "......E#",
            "......W#",
            "########",
            "PHPTP");
        town.pass(3);
        dueLevels(town, 3, 57, 59);
        Towns.buildAll(town, Towns.HOMES, 0, 1, 2, 3, 4, 5, 6, 7, 16, 17, 18, 19, 20, 21, 22, 40, 44);
        town.pass(1);
        dueLevels(town, 3, 57);
        dueLevels(town, 2, 59);
        dueLevels(town, 1, 0, 44);
    }

    /**
     * The zone on 2 has parks and grows to the level 3; the other kind on 0 and 16 is held at the level 1
     * for want of value, and the one on 16 falls once, as it has no part at first.
     */
    private static MillbrookBorough oneAndTwo(int one, int two) {
        MillbrookBorough town = Towns.street();
        town.build(2, one);
        Towns.buildAll(town, two, 0, 16);
        Towns.buildAll(town, Towns.PARK, 3, 4);
        town.pass(2);
        dueLevels(town, 2, 2);
        dueLevels(town, 1, 0);
        dueLevels(town, 0, 16);
        return town;
    }

    private static void homesWithHalfAtWorkStay() {
        Edge.of("Terms", HOMES_FALL);
        MillbrookBorough town = oneAndTwo(Towns.HOMES, Towns.TRADES);
        Check.due("2 of 4 workers", town.placed(2), 2);
        town.pass(1);
        dueLevels(town, 2, 2);
        town.pass(2);
        dueLevels(town, 3, 2);
        Check.due("4 of 6 workers", town.placed(2), 4);
        town.pass(1);
        dueLevels(town, 3, 2);
        town.tear(0);
        Check.due("2 of 6 workers", town.placed(2), 2);
        town.pass(1);
        dueLevels(town, 2, 2);
    }

    private static void homesWithoutJobsFall() {
        Edge.of("Terms", HOMES_FALL);
        MillbrookBorough town = Towns.grown(Towns.HOMES, Towns.TRADES);
        town.tear(4);
        int[] due = {2, 1, 0};
        for (int level : due) {
            Check.due("is served", town.isServed(0), true);
            Check.due("workers with jobs", town.placed(0), 0);
            town.pass(1);
            dueLevels(town, level, 0);
        }
        town.pass(1);
        dueLevels(town, 1, 0);
    }

    private static void tradesWithSomeTakenStay() {
        Edge.of("Terms", TRADES_FALL);
        MillbrookBorough town = oneAndTwo(Towns.TRADES, Towns.HOMES);
        Check.due("2 of 4 jobs", town.placed(2), 2);
        town.pass(1);
        dueLevels(town, 2, 2);
        town.pass(2);
        dueLevels(town, 3, 2);
        Check.due("4 of 6 jobs", town.placed(2), 4);
        town.tear(0);
        Check.due("2 of 6 jobs", town.placed(2), 2);
        town.pass(3);
        dueLevels(town, 3, 2);
    }

    private static void tradesWithNoneTakenFall() {
        Edge.of("Terms", TRADES_FALL);
        MillbrookBorough town = Towns.grown(Towns.HOMES, Towns.TRADES);
        town.tear(0);
        int[] due = {2, 1, 0};
        for (int level : due) {
            Check.due("is served", town.isServed(4), true);
            Check.due("jobs that are taken", town.placed(4), 0);
            town.pass(1);
            dueLevels(town, level, 4);
        }
        town.pass(1);
        dueLevels(town, 1, 4);
    }

    /** All the cash is spent; the month costs 61 of upkeep and 1 of interest. */
    private static void cashOfJustZero(int borrowed, int level) {
        Edge.of("Terms", CASH);
        MillbrookBorough town = Towns.drawn(0,
            "T.W",
            "###E",
            "H",
            "",
            "",
            "########",
            "########",
            "##....EE");
        Check.due("cash", town.cash(), 0);
        town.borrow(borrowed);
        Check.due("the month", town.pass(1), -62);
        Check.due("cash then", town.cash(), borrowed - 62);
        dueLevels(town, level, 0, 16);
    }

    /**
     * The homes on 0 find no work, so they are of the level 0 when the cash has come below 0. The taxes
     * of the six at work lift it to 0 or to -1, and it is the cash behind them that counts.
     */
    private static void cashThatComesToZero(int borrowed, int level) {
        Edge.of("Terms", CASH);
        MillbrookBorough town = Towns.drawn(0,
            "..PHT.W.",
            "#######E",
            "...PP...");
        town.pass(3);
        dueLevels(town, 3, 3, 4);
        town.build(0, Towns.HOMES);
        town.borrow(borrowed);
        town.setTax(false, 0);
        town.setTax(true, 0);
        town.pass(12);
        Check.due("cash below 0", town.cash(), borrowed - 35);
        dueLevels(town, 0, 0);
        town.setTax(false, 5);
        town.setTax(true, 6);
        town.pass(1);
        Check.due("cash then", town.cash(), borrowed - 3);
        dueLevels(town, level, 0);
    }

    /** Trades without workers rise and fall in turns, until the cash is below 0: then they fall, and stay. */
    private static void cashBelowZeroStopsNoFall() {
        Edge.of("Terms", CASH);
        MillbrookBorough town = Towns.street();
        town.pass(1);
        town.build(4, Towns.TRADES);
        town.pass(12);
        town.pass(7);
        Check.due("cash", town.cash(), 20);
        dueLevels(town, 1, 4);
        town.pass(1);
        Check.due("cash below 0", town.cash(), -7);
        dueLevels(town, 0, 4);
        town.pass(1);
        dueLevels(town, 0, 4);
        town.borrow(1000);
        town.pass(1);
        dueLevels(town, 1, 4);
    }

    /** Only the zone on 4 has room for parks enough: 10 + 4 * 5, less by 6 of traffic. */
    private static void threeIsTheHighest(int left, int right) {
        Edge.of("Terms", BELOW_THREE);
        MillbrookBorough town = Towns.grown(left, right);
        Towns.buildAll(town, Towns.PARK, 2, 5);
        Check.due("value above 5 * (3 + 1)", town.value(4), 24);
        Check.due("all at work", town.placed(4), 6);
        town.pass(1);
        dueLevels(town, 3, 4);
        town.pass(12);
        dueLevels(town, 3, 4);
    }

    /** The road 10 has traffic of 6, and the cell 18 no park near. */
    private static void valueOfFourAtLevelZero(int kind) {
        Edge.of("Terms", VALUE);
        MillbrookBorough town = Towns.grown(Towns.HOMES, Towns.TRADES);
        town.tear(16);
        town.tear(20);
        town.build(18, kind);
        Check.due("value", town.value(18), 4);
        town.pass(1);
        dueLevels(town, 0, 18);
        town.build(26, Towns.PARK);
        town.pass(1);
        dueLevels(town, 1, 18);
    }

    /** The power works are at a distance of 2, a park too. */
    private static void valueOfFiveAtLevelZero(int kind) {
        Edge.of("Terms", VALUE);
        MillbrookBorough town = Towns.street();
        town.build(22, kind);
        Check.due("value by power works", town.value(22), 0);
        town.pass(1);
        dueLevels(town, 0, 22);
        town.build(20, Towns.PARK);
        Check.due("value", town.value(22), 5);
        town.pass(1);
        dueLevels(town, 1, 22);
    }

    /** A pair of the level 2 on 0 and 4, and one of the level 1 on 18 and 19 with a park each. */
    private static void valueOfNineAtLevelOne() {
        Edge.of("Terms", VALUE);
        MillbrookBorough town = Towns.drawn(0,
            "HP.PT.W.",
            "#######E");
        town.pass(2);
        town.build(25, Towns.PARK);
        town.build(18, Towns.HOMES);
        town.build(19, Towns.TRADES);
        town.pass(1);
        dueLevels(town, 2, 0, 4);
        dueLevels(town, 1, 18, 19);
        Check.due("value of the homes", town.value(18), 9);
        Check.due("value of the trades", town.value(19), 9);
        Check.due("workers with jobs", town.placed(18), 2);
        town.pass(1);
        dueLevels(town, 1, 18, 19);
    }

    /** A pair of the level 3 on 0 and 5, and two of the level 1, that on 18 and 19 with two parks each. */
    private static void valueOfTenAtLevelOne() {
        Edge.of("Terms", VALUE);
        MillbrookBorough town = Towns.drawn(0,
            "HP..PTP.",
            "#######E",
            "P.....W.",
            "..P.P...");
        town.pass(3);
        dueLevels(town, 3, 0, 5);
        Towns.buildAll(town, Towns.HOMES, 17, 18);
        Towns.buildAll(town, Towns.TRADES, 19, 20);
        town.pass(1);
        dueLevels(town, 1, 18, 19);
        Check.due("value of the homes", town.value(18), 10);
        Check.due("value of the trades", town.value(19), 10);
        Check.due("workers with jobs", town.placed(18), 2);
        town.pass(1);
        dueLevels(town, 2, 18, 19);
    }

    /** A pair of the level 2 on 0 and 4, and one of the level 1 on 16 and 20 that goes over the same roads. */
    private static void valueOfFourteenAtLevelTwo() {
        Edge.of("Terms", VALUE);
        MillbrookBorough town = Towns.drawn(0,
            "HP.PT.W.",
            "#######E");
        town.pass(2);
        town.build(16, Towns.HOMES);
        town.build(20, Towns.TRADES);
        town.pass(1);
        town.build(2, Towns.PARK);
        dueLevels(town, 2, 0, 4);
        Check.due("value of the homes", town.value(0), 14);
        Check.due("value of the trades", town.value(4), 14);
        Check.due("workers with jobs", town.placed(0), 4);
        town.pass(1);
        dueLevels(town, 2, 0, 4);
    }

    private static void valueOfFifteenAtLevelTwo() {
        Edge.of("Terms", VALUE);
        MillbrookBorough town = Towns.twoPairs();
        Check.due("value without the third park", town.value(1), 10);
        town.pass(1);
        dueLevels(town, 2, 1, 5);
        town.build(3, Towns.PARK);
        Check.due("value of the homes", town.value(1), 15);
        Check.due("value of the trades", town.value(5), 15);
        Check.due("workers with jobs", town.placed(1), 4);
        town.pass(1);
        dueLevels(town, 3, 1, 5);
    }

    private static void allMustWork() {
        Edge.of("Terms", FULL);
        MillbrookBorough town = oneAndTwo(Towns.HOMES, Towns.TRADES);
        Check.due("value enough", town.value(2), 18);
        Check.due("2 of 4 workers", town.placed(2), 2);
        town.pass(1);
        dueLevels(town, 2, 2);
        Check.due("value enough", town.value(2), 16);
        Check.due("4 of 4 workers", town.placed(2), 4);
        town.pass(1);
        dueLevels(town, 3, 2);
    }

    private static void allMustBeTaken() {
        Edge.of("Terms", FULL);
        MillbrookBorough town = oneAndTwo(Towns.TRADES, Towns.HOMES);
        Check.due("value enough", town.value(2), 18);
        Check.due("2 of 4 jobs", town.placed(2), 2);
        town.pass(1);
        dueLevels(town, 2, 2);
        Check.due("value enough", town.value(2), 16);
        Check.due("4 of 4 jobs", town.placed(2), 4);
        town.pass(1);
        dueLevels(town, 3, 2);
    }

    private static void levelZeroNeedsNoOne() {
        Edge.of("Terms", LEVEL_ZERO);
        int[] kinds = {Towns.HOMES, Towns.TRADES};
        for (int kind : kinds) {
            MillbrookBorough town = Towns.street();
            town.build(0, kind);
            town.pass(1);
            dueLevels(town, 1, 0);
            town.pass(1);
            dueLevels(town, 0, 0);
            town.pass(1);
            dueLevels(town, 1, 0);
        }
    }
}
