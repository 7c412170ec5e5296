/** Promise 7: months, with what they do to the cash and to the levels. */
public final class MonthTest {
    public static void main(String[] args) {
        upkeep();
        manyMonths();
        growthByValue();
        halfOfTheWorkersStay();
        aThirdOfTheWorkersFalls();
        aThirdOfTheJobsStays();
        levelThreeIsTheHighest(Towns.HOMES, Towns.TRADES);
        levelThreeIsTheHighest(Towns.TRADES, Towns.HOMES);
        valueOfJustFive();
        emptyTradesFall();
        notServedFall();
        cashOfZeroGrows(62, 1);
        cashOfZeroGrows(61, 0);
        levelsChangeAtOnce();
        refusals();
        Check.end();
    }

    private static void upkeep() {
        MillbrookBorough town = new MillbrookBorough();
        int[] sums = {1, 1, 1, 3, 13, 23};
        for (int kind = 1; kind <= 6; kind++) {
            town.build(10 * kind, kind);
            Check.due("upkeep", town.pass(1), -sums[kind - 1]);
        }
        Check.due("earned", town.earned(), -42);
        Check.due("cash", town.cash(), 1000 - 430 - 42);
    }

    private static void manyMonths() {
        MillbrookBorough town = Towns.street();
        Check.due("twelve months", town.pass(12), -12 * 27);
        Check.due("twelve more", town.pass(12), -12 * 27);
        Check.due("cash can be below 0", town.cash(), 580 - 24 * 27);
        Check.due("earned", town.earned(), -24 * 27);
    }

    /** The value 10 lets a zone reach the level 1; traffic of 2 is behind why it needs a park then. */
    private static void growthByValue() {
        MillbrookBorough town = Towns.street();
        town.build(0, Towns.HOMES);
        town.build(4, Towns.TRADES);
        town.pass(1);
        Check.due("level 1", town.level(0), 1);
        town.pass(3);
        Check.due("value 8 is too little for level 2", town.level(0), 1);
        Check.due("of trades too", town.level(4), 1);
        town.build(1, Towns.PARK);
        town.pass(1);
        Check.due("value 13 lets homes grow", town.level(0), 2);
        Check.due("trades have 8", town.level(4), 1);
        town.build(22, Towns.HOMES);
        Check.due("value near power", town.value(22), 0);
        town.pass(1);
        Check.due("value 0 is too little for level 1", town.level(22), 0);
    }

    private static void halfOfTheWorkersStay() {
        MillbrookBorough town = Towns.street();
        town.build(2, Towns.HOMES);
        town.build(0, Towns.TRADES);
        town.build(4, Towns.TRADES);
        town.build(18, Towns.PARK);
        Check.due("first month", town.pass(1), -29);
        Check.due("second month", town.pass(1), -15);
        Check.due("homes grow", town.level(2), 2);
        Check.due("full trades stay", town.level(0), 1);
        Check.due("trades without workers fall", town.level(4), 0);
        Check.due("half of the workers", town.placed(2), 2);
        Check.due("third month", town.pass(1), -15);
        Check.due("half at work: homes stay", town.level(2), 2);
        Check.due("trades grow again", town.level(4), 1);
        Check.due("to the one", town.going(2, 0), 2);
        Check.due("to the other", town.going(2, 4), 2);
        Check.due("traffic of both", town.traffic(10), 4);
        Check.due("traffic of the one", town.traffic(9), 2);
        Check.due("fourth month", town.pass(1), -1);
        Check.due("value 11 is too little for level 3", town.level(2), 2);
        town.tear(0);
        town.tear(4);
        town.pass(1);
        Check.due("none at work: homes fall", town.level(2), 1);
        town.pass(1);
        Check.due("and fall", town.level(2), 0);
        town.pass(1);
        Check.due("and begin anew", town.level(2), 1);
    }

    /** Zones on 0 and 4, both of the level 3. */
    private static MillbrookBorough grown(int left, int right) {
        MillbrookBorough town = Towns.street();
        town.build(0, left);
        town.build(4, right);
        Towns.buildAll(town, Towns.PARK, 1, 3, 16, 20);
        town.pass(3);
        return town;
    }

    private static void aThirdOfTheWorkersFalls() {
        MillbrookBorough town = grown(Towns.HOMES, Towns.TRADES);
        town.build(2, Towns.TRADES);
        town.pass(1);
        town.tear(4);
        Check.due("2 of 6 workers", town.placed(0), 2);
        town.pass(1);
        Check.due("more than half without jobs: homes fall", town.level(0), 2);
        Check.due("trades with all taken", town.level(2) > 0 ? 1 : 0, 1);
    }

    private static void aThirdOfTheJobsStays() {
        MillbrookBorough town = grown(Towns.HOMES, Towns.TRADES);
        town.build(19, Towns.HOMES);
        town.pass(1);
        town.tear(0);
        Check.due("2 of 6 jobs", town.placed(4), 2);
        town.pass(1);
        Check.due("trades with a third taken stay", town.level(4), 3);
    }

    /** Only the right one has room for parks enough: 10 + 4 * 5, less by 6 of traffic. */
    private static void levelThreeIsTheHighest(int left, int right) {
        MillbrookBorough town = grown(left, right);
        Towns.buildAll(town, Towns.PARK, 2, 5);
        Check.due("value enough for more", town.value(4), 24);
        town.pass(2);
        Check.due("the highest level", town.level(4), 3);
    }

    private static void valueOfJustFive() {
        MillbrookBorough town = Towns.street();
        town.build(22, Towns.HOMES);
        town.pass(1);
        Check.due("value 0 is not enough", town.level(22), 0);
        town.build(20, Towns.PARK);
        Check.due("value 5", town.value(22), 5);
        town.pass(1);
        Check.due("value 5 is enough for level 1", town.level(22), 1);
    }

    private static void emptyTradesFall() {
        MillbrookBorough town = Towns.street();
        town.build(4, Towns.TRADES);
        town.pass(1);
        Check.due("trades begin without workers", town.level(4), 1);
        town.pass(1);
        Check.due("and fall", town.level(4), 0);
        town.pass(1);
        Check.due("and begin anew", town.level(4), 1);
    }

    private static void notServedFall() {
        MillbrookBorough town = Towns.street();
        town.build(0, Towns.HOMES);
        town.build(4, Towns.TRADES);
        town.build(63, Towns.HOMES);
        Towns.buildAll(town, Towns.PARK, 1, 3, 16, 20);
        town.pass(3);
        Check.due("level", town.level(0), 3);
        Check.due("level without a net", town.level(63), 0);
        Check.due("value of level 3", town.value(0), 14);
        town.pass(1);
        Check.due("level 3 stays", town.level(0), 3);
        town.tear(6);
        town.pass(1);
        Check.due("homes fall by one", town.level(0), 2);
        Check.due("trades fall by one", town.level(4), 2);
        town.pass(5);
        Check.due("homes stay at 0", town.level(0), 0);
        Check.due("trades stay at 0", town.level(4), 0);
    }

    /** The cash behind taxes and upkeep counts: 61 of upkeep and 1 of interest are paid first. */
    private static void cashOfZeroGrows(int borrowed, int level) {
        MillbrookBorough town = new MillbrookBorough();
        Towns.buildAll(town, Towns.ROAD, 8, 9, 10);
        town.build(11, Towns.POWER);
        town.build(2, Towns.WATER);
        town.build(16, Towns.HOMES);
        town.build(0, Towns.TRADES);
        town.build(62, Towns.POWER);
        town.build(63, Towns.POWER);
        for (int cell = 40; cell < 58; cell++) {
            town.build(cell, Towns.ROAD);
        }
        Check.due("all is spent", town.cash(), 0);
        town.borrow(borrowed);
        Check.due("the month", town.pass(1), -62);
        Check.due("level with a cash of " + town.cash(), town.level(16), level);
        Check.due("of trades too", town.level(0), level);
    }

    /** Were the levels changed one by one, the homes would find the new jobs of the lower zone. */
    private static void levelsChangeAtOnce() {
        MillbrookBorough town = Towns.street();
        town.build(2, Towns.HOMES);
        town.pass(1);
        town.build(0, Towns.TRADES);
        town.pass(1);
        Check.due("trades begin", town.level(0), 1);
        Check.due("homes had no jobs", town.level(2), 0);
    }

    private static void refusals() {
        MillbrookBorough town = Towns.street();
        Check.dueRefusal("pass(0)", Check.ARGUMENT, town, () -> town.pass(0));
        Check.dueRefusal("pass(-1)", Check.ARGUMENT, town, () -> town.pass(-1));
        Check.dueRefusal("pass(13)", Check.ARGUMENT, town, () -> town.pass(13));
        Check.dueThrow("pass(max)", Check.ARGUMENT, () -> town.pass(Integer.MAX_VALUE));
    }
}
