/** What it is: 512 calls on one object. The runs of ModelTest are as long, and mixed. */
final class EdgesOfLongRuns {
    private static final int CALLS = 512;

    private EdgesOfLongRuns() {
    }

    static void all() {
        monthsAlone();
        buildAndTearInTurns();
        refusedCallsAlone();
        questionsAlone();
        aTownThatRests();
    }

    private static void begin() {
        Edge.of("What it is", "An object is used for at most 512 calls after it has been made");
    }

    /** The greatest debt, and 510 times twelve months: the cash goes far below 0. */
    private static void monthsAlone() {
        begin();
        MillbrookBorough town = new MillbrookBorough();
        Towns.borrowAll(town, 5000);
        town.build(0, Towns.POWER);
        int cash = 5800;
        for (int call = 6; call < CALLS - 2; call++) {
            Check.due("pass(12)", town.pass(12), -12 * (10 + 50));
            cash -= 720;
        }
        Check.due("cash", town.cash(), cash);
        Check.due("earned", town.earned(), cash - 5800);
    }

    private static void buildAndTearInTurns() {
        begin();
        MillbrookBorough town = new MillbrookBorough();
        int cash = 1000;
        int call = 0;
        for (; cash >= 15; call += 2) {
            Check.due("build", town.build(call % 64, Towns.ROAD), cash - 10);
            Check.due("tear", town.tear(call % 64), Towns.ROAD);
            cash -= 15;
        }
        for (; call < CALLS - 1; call++) {
            int cell = call % 64;
            if (cash >= 10) {
                Check.due("the last build", town.build(cell, Towns.ROAD), cash - 10);
                cash -= 10;
            } else {
                Check.dueThrow("build without cash", Check.STATE, () -> town.build(cell, Towns.ROAD));
            }
        }
        Check.due("cash", town.cash(), 0);
    }

    private static void refusedCallsAlone() {
        begin();
        MillbrookBorough town = Towns.drawn(0, "EEEEE");
        for (int call = 5; call < CALLS - 2; call++) {
            int cell = call % 64;
            Check.dueThrow("build without cash", Check.STATE, () -> town.build(cell, 1 + cell % 6));
        }
        Check.due("cash", town.cash(), 0);
        Check.due("kind", town.kind(63), 0);
    }

    private static void questionsAlone() {
        begin();
        MillbrookBorough town = Towns.longWay();
        for (int call = 21; call < CALLS - 1; call++) {
            int cell = call % 64;
            switch (call % 4) {
                case 0:
                    Check.due("traffic", town.traffic(cell), cell < 8 || cell % 8 == 7 ? 2 : 0);
                    break;
                case 1:
                    Check.due("net", town.net(cell) >= 0, cell < 16 || cell % 8 >= 6);
                    break;
                case 2:
                    Check.due("level", town.level(cell), cell == 8 || cell == 62 ? 1 : 0);
                    break;
                default:
                    Check.due("going", town.going(8, cell), cell == 62 ? 2 : 0);
                    break;
            }
        }
        Check.due("cash", town.cash(), 1000 - 540 - 35);
    }

    /** Nothing changes from the third month on, but for the cash. */
    private static void aTownThatRests() {
        begin();
        MillbrookBorough town = Towns.grown(Towns.HOMES, Towns.TRADES);
        int cash = town.cash();
        for (int call = 20; call < CALLS - 4; call++) {
            Check.due("a month of rest", town.pass(1), 6 * (3 + 4) - 35);
        }
        Check.due("cash", town.cash(), cash + 488 * 7);
        Check.due("level of homes", town.level(0), 3);
        Check.due("level of trades", town.level(4), 3);
        Check.due("traffic", town.traffic(10), 6);
    }
}
