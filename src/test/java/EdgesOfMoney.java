/** Promises 4 to 10: the taxes, the loan, the months and what is asked about the money. */
final class EdgesOfMoney {
    private static final String NO_TAX = "Throws `IllegalArgumentException` if tax is out of range";
    private static final String NO_AMOUNT = "Throws `IllegalArgumentException` if amount is out of range";
    private static final String NO_MONTHS = "Throws `IllegalArgumentException` if months is out of range";
    private static final String TOO_MUCH_DEBT = "Throws `IllegalStateException` if the debt would be more than 5000";
    private static final String TOO_MUCH_BACK =
        "Throws `IllegalStateException` if it is more than the debt, or more than the cash";

    private EdgesOfMoney() {
    }

    static void all() {
        setsEachTax();
        leastAndGreatestTax();
        taxBefore();
        setsOneOfTheTaxes();
        noSuchTax();
        leastAndGreatestLoan();
        noSuchLoan();
        borrowMovesBoth();
        borrowReturnsTheDebt();
        debtOfJust5000();
        leastAndGreatestRepay();
        noSuchRepay();
        repayMovesBoth();
        repayReturnsTheDebt();
        repayJustTheDebt();
        repayJustTheCash();
        monthsPass();
        leastAndGreatestMonths();
        noSuchMonths();
        passReturnsTheDifference();
        asksCash();
        asksDebt();
        asksEarned();
        earnedIsOfMonthsAlone();
    }

    private static void setsEachTax() {
        Edge.of("Promise 4", "Sets a tax.");
        MillbrookBorough town = Towns.grown(Towns.HOMES, Towns.TRADES);
        town.setTax(false, 0);
        Check.due("a month with the tax of trades alone", town.pass(1), 6 * 4 - 35);
        town.setTax(true, 20);
        Check.due("a month with the greatest of it", town.pass(1), 6 * 20 - 35);
    }

    private static void leastAndGreatestTax() {
        Edge.of("Promise 4", "`tax`: 0 to 20");
        MillbrookBorough town = new MillbrookBorough();
        int[] taxes = {0, 20, 1, 19, 0};
        int[] before = {3, 4};
        for (int tax : taxes) {
            Check.due("setTax(false, " + tax + ")", town.setTax(false, tax), before[0]);
            Check.due("setTax(true, " + tax + ")", town.setTax(true, tax), before[1]);
            before[0] = tax;
            before[1] = tax;
        }
    }

    private static void taxBefore() {
        Edge.of("Promise 4", "Returns the tax before.");
        MillbrookBorough town = new MillbrookBorough();
        Check.due("setTax(false, 3), the same", town.setTax(false, 3), 3);
        Check.due("setTax(false, 7)", town.setTax(false, 7), 3);
        Check.due("setTax(false, 7) again", town.setTax(false, 7), 7);
        Check.due("setTax(true, 7)", town.setTax(true, 7), 4);
        Check.due("cash", town.cash(), 1000);
    }

    private static void setsOneOfTheTaxes() {
        Edge.of("Promise 4", "`trades`: whether it is that of trades, otherwise that of homes");
        MillbrookBorough town = new MillbrookBorough();
        town.setTax(true, 11);
        Check.due("the tax of homes as before", town.setTax(false, 12), 3);
        Check.due("the tax of trades as set", town.setTax(true, 0), 11);
        Check.due("the tax of homes as set", town.setTax(false, 0), 12);
    }

    private static void noSuchTax() {
        Edge.of("Promise 4", NO_TAX);
        MillbrookBorough town = new MillbrookBorough();
        int[] taxes = {-1, 21, Integer.MIN_VALUE, Integer.MAX_VALUE};
        for (int tax : taxes) {
            Check.dueThrow("setTax(false, " + tax + ")", Check.ARGUMENT, () -> town.setTax(false, tax));
            Check.dueThrow("setTax(true, " + tax + ")", Check.ARGUMENT, () -> town.setTax(true, tax));
        }
        Check.due("tax of homes", town.setTax(false, 0), 3);
        Check.due("tax of trades", town.setTax(true, 0), 4);
    }

    private static void leastAndGreatestLoan() {
        Edge.of("Promise 5", "`amount`: 1 to 1000");
        MillbrookBorough town = new MillbrookBorough();
        Check.due("borrow(1)", town.borrow(1), 1);
        Check.due("borrow(1000)", town.borrow(1000), 1001);
    }

    private static void noSuchLoan() {
        Edge.of("Promise 5", NO_AMOUNT);
        MillbrookBorough town = new MillbrookBorough();
        int[] amounts = {0, -1, 1001, Integer.MIN_VALUE, Integer.MAX_VALUE};
        for (int amount : amounts) {
            Check.dueThrow("borrow(" + amount + ")", Check.ARGUMENT, () -> town.borrow(amount));
        }
        Check.due("debt", town.debt(), 0);
        Check.due("cash", town.cash(), 1000);
    }

    private static void borrowMovesBoth() {
        Edge.of("Promise 5", "Borrows money; debt and cash grow by it.");
        MillbrookBorough town = new MillbrookBorough();
        town.borrow(1);
        Check.due("cash", town.cash(), 1001);
        Check.due("debt", town.debt(), 1);
        town.borrow(1000);
        Check.due("cash", town.cash(), 2001);
        Check.due("debt", town.debt(), 1001);
    }

    private static void borrowReturnsTheDebt() {
        Edge.of("Promise 5", "Returns the debt then.");
        MillbrookBorough town = new MillbrookBorough();
        Check.due("the first loan", town.borrow(500), 500);
        Check.due("the second", town.borrow(250), 750);
        town.repay(700);
        Check.due("behind a repay", town.borrow(1), 51);
    }

    private static void debtOfJust5000() {
        Edge.of("Promise 5", TOO_MUCH_DEBT);
        MillbrookBorough town = new MillbrookBorough();
        Towns.borrowAll(town, 4001);
        Check.dueThrow("borrow(1000) to 5001", Check.STATE, () -> town.borrow(1000));
        Check.due("borrow(999) to 5000", town.borrow(999), 5000);
        Check.dueThrow("borrow(1) to 5001", Check.STATE, () -> town.borrow(1));
        Check.dueThrow("borrow(1000) to 6000", Check.STATE, () -> town.borrow(1000));
        Check.due("debt", town.debt(), 5000);
        Check.due("cash", town.cash(), 6000);
        town.repay(1);
        Check.due("borrow(1) to 5000", town.borrow(1), 5000);
    }

    private static void leastAndGreatestRepay() {
        Edge.of("Promise 6", "`amount`: 1 to 5000");
        MillbrookBorough town = new MillbrookBorough();
        Towns.borrowAll(town, 5000);
        Check.due("repay(5000)", town.repay(5000), 0);
        town.borrow(2);
        Check.due("repay(1)", town.repay(1), 1);
    }

    private static void noSuchRepay() {
        Edge.of("Promise 6", NO_AMOUNT);
        MillbrookBorough town = new MillbrookBorough();
        Towns.borrowAll(town, 5000);
        int[] amounts = {0, -1, 5001, Integer.MIN_VALUE, Integer.MAX_VALUE};
        for (int amount : amounts) {
            Check.dueThrow("repay(" + amount + ")", Check.ARGUMENT, () -> town.repay(amount));
        }
        Check.due("debt", town.debt(), 5000);
        Check.due("cash", town.cash(), 6000);
    }

    private static void repayMovesBoth() {
        Edge.of("Promise 6", "Pays back; debt and cash are less by it.");
        MillbrookBorough town = new MillbrookBorough();
        town.borrow(1000);
        town.repay(1);
        Check.due("debt", town.debt(), 999);
        Check.due("cash", town.cash(), 1999);
        town.repay(999);
        Check.due("debt", town.debt(), 0);
        Check.due("cash", town.cash(), 1000);
    }

    private static void repayReturnsTheDebt() {
        Edge.of("Promise 6", "Returns the debt then.");
        MillbrookBorough town = new MillbrookBorough();
        town.borrow(100);
        Check.due("repay(40)", town.repay(40), 60);
        Check.due("repay(60)", town.repay(60), 0);
    }

    private static void repayJustTheDebt() {
        Edge.of("Promise 6", TOO_MUCH_BACK);
        MillbrookBorough town = new MillbrookBorough();
        Check.dueThrow("repay(1) of no debt", Check.STATE, () -> town.repay(1));
        Check.dueThrow("repay(5000) of no debt", Check.STATE, () -> town.repay(5000));
        town.borrow(10);
        Check.dueThrow("repay(11) of 10", Check.STATE, () -> town.repay(11));
        Check.due("debt", town.debt(), 10);
        Check.due("repay(10) of 10", town.repay(10), 0);
        Check.dueThrow("repay(1) of no debt again", Check.STATE, () -> town.repay(1));
    }

    private static void repayJustTheCash() {
        Edge.of("Promise 6", TOO_MUCH_BACK);
        MillbrookBorough town = Towns.drawn(130, "EEEEE", "#");
        Check.due("cash", town.cash(), 120);
        Check.dueThrow("repay(121) with 120", Check.STATE, () -> town.repay(121));
        Check.due("debt", town.debt(), 130);
        Check.due("repay(120) with 120", town.repay(120), 10);
        Check.due("cash", town.cash(), 0);
        Check.dueThrow("repay(1) with nothing", Check.STATE, () -> town.repay(1));
        town.pass(1);
        Check.dueThrow("repay(1) below 0", Check.STATE, () -> town.repay(1));
        Check.due("cash below 0", town.cash(), -52);
    }

    private static void monthsPass() {
        Edge.of("Promise 7", "Lets months pass.");
        MillbrookBorough slow = Towns.street();
        MillbrookBorough fast = Towns.street();
        MillbrookBorough[] towns = {slow, fast};
        for (MillbrookBorough town : towns) {
            town.build(0, Towns.HOMES);
            Towns.buildAll(town, Towns.TRADES, 4, 18);
            Towns.buildAll(town, Towns.PARK, 1, 3, 2);
        }
        int sum = 0;
        for (int month = 0; month < 12; month++) {
            sum += slow.pass(1);
        }
        Check.due("twelve months at once", fast.pass(12), sum);
        for (int cell = 0; cell < 24; cell++) {
            Check.due("level of " + cell, fast.level(cell), slow.level(cell));
        }
        Check.due("earned", fast.earned(), slow.earned());
    }

    private static void leastAndGreatestMonths() {
        Edge.of("Promise 7", "`months`: 1 to 12");
        MillbrookBorough town = Towns.drawn(0, "#");
        for (int months = 1; months <= 12; months++) {
            Check.due("pass(" + months + ")", town.pass(months), -months);
        }
    }

    private static void noSuchMonths() {
        Edge.of("Promise 7", NO_MONTHS);
        MillbrookBorough town = Towns.drawn(0, "#");
        int[] numbers = {0, -1, 13, Integer.MIN_VALUE, Integer.MAX_VALUE};
        for (int months : numbers) {
            Check.dueThrow("pass(" + months + ")", Check.ARGUMENT, () -> town.pass(months));
        }
        Check.due("cash", town.cash(), 990);
        Check.due("earned", town.earned(), 0);
    }

    private static void passReturnsTheDifference() {
        Edge.of("Promise 7", "Returns by how much the cash is greater then, below 0 if it is less.");
        MillbrookBorough town = new MillbrookBorough();
        Check.due("no more and no less", town.pass(12), 0);
        town = Towns.grown(Towns.HOMES, Towns.TRADES);
        Check.due("greater", town.pass(1), 6 * 7 - 35);
        Check.due("greater by some months", town.pass(3), 3 * 7);
        town.setTax(true, 0);
        Check.due("less", town.pass(1), 6 * 3 - 35);
        town.borrow(100);
        Check.due("less, by interest too", town.pass(2), 2 * (6 * 3 - 35 - 1));
    }

    private static void asksCash() {
        Edge.of("Promise 8", "Returns the cash.");
        MillbrookBorough town = new MillbrookBorough();
        Check.due("at first", town.cash(), 1000);
        town.build(0, Towns.POWER);
        Check.due("behind a build", town.cash(), 800);
        town.tear(0);
        Check.due("behind a tear", town.cash(), 795);
        town.borrow(5);
        Check.due("behind a loan", town.cash(), 800);
        town.repay(4);
        Check.due("behind a repay", town.cash(), 796);
        town.setTax(true, 20);
        Check.due("behind a new tax", town.cash(), 796);
        Towns.buildAll(town, Towns.POWER, 0, 1, 2);
        town.build(3, Towns.WATER);
        Towns.buildAll(town, Towns.ROAD, 4, 5, 6, 7);
        town.pass(1);
        Check.due("below 0", town.cash(), 6 - 40 - 4 - 1);
        Check.due("asked again", town.cash(), -39);
    }

    private static void asksDebt() {
        Edge.of("Promise 9", "Returns the debt.");
        MillbrookBorough town = new MillbrookBorough();
        Check.due("at first", town.debt(), 0);
        Towns.borrowAll(town, 5000);
        Check.due("the greatest", town.debt(), 5000);
        town.build(0, Towns.PARK);
        town.pass(12);
        Check.due("behind months and a build", town.debt(), 5000);
        town.repay(4999);
        Check.due("the least", town.debt(), 1);
        town.repay(1);
        Check.due("none", town.debt(), 0);
    }

    private static void asksEarned() {
        Edge.of("Promise 10", "Returns what has come in by taxes so far, less upkeep and interest.");
        MillbrookBorough town = Towns.street();
        town.build(0, Towns.HOMES);
        town.build(4, Towns.TRADES);
        town.borrow(101);
        Check.due("before a month", town.earned(), 0);
        town.pass(1);
        Check.due("a month without taxes", town.earned(), -27 - 2);
        town.setTax(false, 20);
        town.setTax(true, 20);
        town.pass(1);
        Check.due("a month with taxes", town.earned(), -29 + 2 * 40 - 29);
        town.pass(2);
        Check.due("two months more", town.earned(), 22 + 2 * 51);
    }

    private static void earnedIsOfMonthsAlone() {
        Edge.of("Promise 10", "Returns the sum.");
        MillbrookBorough town = Towns.street();
        town.tear(6);
        town.borrow(1000);
        town.repay(10);
        town.setTax(false, 20);
        Check.due("without months", town.earned(), 0);
        town.pass(12);
        Check.due("below 0", town.earned(), -12 * (17 + 10));
        town.tear(15);
        Check.due("behind another tear", town.earned(), -324);
    }
}
