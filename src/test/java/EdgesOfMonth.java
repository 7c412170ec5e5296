/** Terms: the money of a month, and that with which the town begins. */
final class EdgesOfMonth {
    private static final String BEGIN = "by the levels with which the month begins";
    private static final String TAXES =
        "for each worker with a job the tax of homes, for each job that is taken the tax of trades";
    private static final String UPKEEP =
        "Then upkeep is paid: 1 for each road, 2 for each park, 10 for each of the works";
    private static final String INTEREST = "and interest: the debt divided by 100, rounded up";

    private EdgesOfMonth() {
    }

    static void all() {
        levelsOfTheBeginAreTaxed();
        taxesOfBothKinds();
        noTaxWithoutWork();
        zonesWithoutSupplyAreTaxed();
        upkeepOfEachKind();
        interestIsRoundedUp();
        cashFallsBelowZero();
        theTownBegins();
    }

    private static void levelsOfTheBeginAreTaxed() {
        Edge.of("Terms", BEGIN);
        MillbrookBorough town = Towns.street();
        town.build(0, Towns.HOMES);
        town.build(4, Towns.TRADES);
        Towns.buildAll(town, Towns.PARK, 1, 3, 16, 20);
        for (int level = 0; level <= 3; level++) {
            Check.due("level at the begin", town.level(0), level);
            Check.due("the month", town.pass(1), 2 * level * (3 + 4) - 35);
        }
        town.tear(6);
        Check.due("a month of a fall, by the level before it", town.pass(1), 6 * (3 + 4) - 25);
        Check.due("the month behind it", town.pass(1), 4 * (3 + 4) - 25);
    }

    private static void taxesOfBothKinds() {
        Edge.of("Terms", TAXES);
        MillbrookBorough town = Towns.grown(Towns.HOMES, Towns.TRADES);
        int[] taxes = {0, 1, 20};
        for (int homes : taxes) {
            for (int trades : taxes) {
                town.setTax(false, homes);
                town.setTax(true, trades);
                Check.due("taxes of " + homes + " and " + trades, town.pass(1), 6 * homes + 6 * trades - 35);
            }
        }
    }

    private static void noTaxWithoutWork() {
        Edge.of("Terms", TAXES);
        MillbrookBorough town = Towns.grown(Towns.HOMES, Towns.TRADES);
        town.setTax(false, 20);
        town.setTax(true, 20);
        town.tear(10);
        Check.due("workers of one net, jobs of another", town.pass(1), -34);
        town = Towns.street();
        Towns.buildAll(town, Towns.HOMES, 0, 2);
        town.setTax(false, 20);
        town.pass(1);
        Check.due("workers without trades", town.pass(1), -27);
    }

    private static void zonesWithoutSupplyAreTaxed() {
        Edge.of("Terms", TAXES);
        MillbrookBorough town = Towns.grown(Towns.HOMES, Towns.TRADES);
        town.tear(15);
        Check.due("is served", town.isServed(0), false);
        Check.due("the month", town.pass(1), 6 * (3 + 4) - 25);
    }

    private static void upkeepOfEachKind() {
        Edge.of("Terms", UPKEEP);
        int[] upkeep = {0, 1, 0, 0, 2, 10, 10};
        for (int kind = 1; kind <= 6; kind++) {
            MillbrookBorough town = new MillbrookBorough();
            town.build(0, kind);
            Check.due("upkeep of one of the kind " + kind, town.pass(1), -upkeep[kind]);
            town.build(63, kind);
            Check.due("upkeep of two of the kind " + kind, town.pass(1), -2 * upkeep[kind]);
            town.tear(0);
            Check.due("upkeep behind a tear", town.pass(1), -upkeep[kind]);
            town.tear(63);
            Check.due("upkeep of an empty board", town.pass(1), 0);
        }
    }

    private static void interestIsRoundedUp() {
        Edge.of("Terms", INTEREST);
        int[] debts = {0, 1, 2, 99, 100, 101, 199, 200, 201, 4900, 4901, 4999, 5000};
        int[] due = {0, 1, 1, 1, 1, 2, 2, 2, 3, 49, 50, 50, 50};
        for (int i = 0; i < debts.length; i++) {
            MillbrookBorough town = new MillbrookBorough();
            Towns.borrowAll(town, debts[i]);
            Check.due("interest of " + debts[i], town.pass(1), -due[i]);
            Check.due("debt as before", town.debt(), debts[i]);
            Check.due("interest of " + debts[i] + " again", town.pass(1), -due[i]);
        }
    }

    private static void cashFallsBelowZero() {
        Edge.of("Terms", "The cash can be below 0.");
        MillbrookBorough town = Towns.drawn(0, "EEEEE");
        Check.due("cash of 0", town.cash(), 0);
        Check.due("a month", town.pass(1), -50);
        Check.due("cash below 0", town.cash(), -50);
        Check.due("a month below 0", town.pass(1), -50);
        Check.due("no interest on it", town.cash(), -100);
        Check.dueThrow("build(63, 1) below 0", Check.STATE, () -> town.build(63, Towns.ROAD));
        Check.dueThrow("tear(0) below 0", Check.STATE, () -> town.tear(0));
        town.borrow(105);
        Check.due("cash above 0", town.cash(), 5);
        Check.due("tear(0)", town.tear(0), Towns.POWER);
    }

    private static void theTownBegins() {
        Edge.of("Terms", "The town begins with the cash 1000, no debt, and taxes of 3 for homes and 4 for trades.");
        MillbrookBorough town = new MillbrookBorough();
        Check.due("cash", town.cash(), 1000);
        Check.due("debt", town.debt(), 0);
        Check.due("tax of homes", town.setTax(false, 0), 3);
        Check.due("tax of trades", town.setTax(true, 0), 4);
    }
}
