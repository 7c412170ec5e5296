/** Promises 4 to 6 and 8 to 10: taxes, the loan, cash, debt and what was earned. */
public final class MoneyTest {
    public static void main(String[] args) {
        taxesAreSet();
        taxesRefuse();
        borrowing();
        borrowRefuses();
        repaying();
        repayRefuses();
        interestIsRoundedUp();
        taxesComeIn();
        Check.end();
    }

    private static void taxesAreSet() {
        MillbrookBorough town = new MillbrookBorough();
        Check.due("setTax(false, 20)", town.setTax(false, 20), 3);
        Check.due("setTax(true, 0)", town.setTax(true, 0), 4);
        Check.due("setTax(false, 0)", town.setTax(false, 0), 20);
        Check.due("setTax(true, 20)", town.setTax(true, 20), 0);
        Check.due("setTax(true, 1)", town.setTax(true, 1), 20);
        Check.due("setTax(false, 1)", town.setTax(false, 1), 0);
    }

    private static void taxesRefuse() {
        MillbrookBorough town = new MillbrookBorough();
        Check.dueRefusal("setTax(false, -1)", Check.ARGUMENT, town, () -> town.setTax(false, -1));
        Check.dueRefusal("setTax(false, 21)", Check.ARGUMENT, town, () -> town.setTax(false, 21));
        Check.dueRefusal("setTax(true, -1)", Check.ARGUMENT, town, () -> town.setTax(true, -1));
        Check.dueRefusal("setTax(true, 21)", Check.ARGUMENT, town, () -> town.setTax(true, 21));
    }

    private static void borrowing() {
        MillbrookBorough town = new MillbrookBorough();
        Check.due("borrow(1)", town.borrow(1), 1);
        Check.due("borrow(999)", town.borrow(999), 1000);
        for (int times = 2; times <= 5; times++) {
            Check.due("borrow(1000)", town.borrow(1000), 1000 * times);
        }
        Check.due("cash", town.cash(), 6000);
        Check.due("debt", town.debt(), 5000);
        Check.due("earned is not by borrowing", town.earned(), 0);
    }

    private static void borrowRefuses() {
        MillbrookBorough town = new MillbrookBorough();
        Check.dueRefusal("borrow(0)", Check.ARGUMENT, town, () -> town.borrow(0));
        Check.dueRefusal("borrow(-1)", Check.ARGUMENT, town, () -> town.borrow(-1));
        Check.dueRefusal("borrow(1001)", Check.ARGUMENT, town, () -> town.borrow(1001));
        for (int times = 0; times < 4; times++) {
            town.borrow(1000);
        }
        town.borrow(1);
        Check.dueRefusal("borrow(1000) to 5001", Check.STATE, town, () -> town.borrow(1000));
        Check.due("borrow(999) to 5000", town.borrow(999), 5000);
        Check.dueThrow("borrow(1) to 5001", Check.STATE, () -> town.borrow(1));
        Check.dueThrow("borrow(max)", Check.ARGUMENT, () -> town.borrow(Integer.MAX_VALUE));
    }

    private static void repaying() {
        MillbrookBorough town = new MillbrookBorough();
        town.borrow(1000);
        Check.due("repay(1)", town.repay(1), 999);
        Check.due("cash", town.cash(), 1999);
        Check.due("repay(999)", town.repay(999), 0);
        Check.due("cash", town.cash(), 1000);
        Check.due("debt", town.debt(), 0);
        Check.due("earned is not by repaying", town.earned(), 0);
        for (int times = 0; times < 5; times++) {
            town.borrow(1000);
        }
        Check.due("repay(5000)", town.repay(5000), 0);
    }

    private static void repayRefuses() {
        MillbrookBorough town = new MillbrookBorough();
        Check.dueRefusal("repay(0)", Check.ARGUMENT, town, () -> town.repay(0));
        Check.dueRefusal("repay(-1)", Check.ARGUMENT, town, () -> town.repay(-1));
        Check.dueRefusal("repay(5001)", Check.ARGUMENT, town, () -> town.repay(5001));
        Check.dueRefusal("repay(1) without debt", Check.STATE, town, () -> town.repay(1));
        town.borrow(10);
        Check.dueThrow("repay(11) of 10", Check.STATE, () -> town.repay(11));
        MillbrookBorough poor = new MillbrookBorough();
        poor.borrow(150);
        Towns.buildAll(poor, Towns.POWER, 0, 1, 2, 3, 4);
        Check.due("cash", poor.cash(), 150);
        poor.build(5, Towns.PARK);
        Check.dueRefusal("repay(121) with 120", Check.STATE, poor, () -> poor.repay(121));
        Check.due("repay(120) with 120", poor.repay(120), 30);
        poor.pass(1);
        Check.due("cash below 0", poor.cash(), -53);
        Check.dueThrow("repay(1) below 0", Check.STATE, () -> poor.repay(1));
        Check.dueThrow("tear(0) below 0", Check.STATE, () -> poor.tear(0));
    }

    private static void interestIsRoundedUp() {
        MillbrookBorough town = new MillbrookBorough();
        Check.due("a month without debt", town.pass(1), 0);
        town.borrow(1);
        Check.due("a month with a debt of 1", town.pass(1), -1);
        town.borrow(99);
        Check.due("a month with a debt of 100", town.pass(1), -1);
        town.borrow(1);
        Check.due("a month with a debt of 101", town.pass(1), -2);
        Check.due("earned", town.earned(), -4);
        Check.due("debt is as before", town.debt(), 101);
        Check.due("cash", town.cash(), 1097);
    }

    private static void taxesComeIn() {
        MillbrookBorough town = Towns.street();
        town.build(0, Towns.HOMES);
        town.build(4, Towns.TRADES);
        Check.due("the first month", town.pass(1), -27);
        Check.due("the month with 2 at work", town.pass(1), 2 * 3 + 2 * 4 - 27);
        town.setTax(false, 20);
        Check.due("the month with more tax of homes", town.pass(1), 2 * 20 + 2 * 4 - 27);
        town.setTax(true, 0);
        Check.due("the month without tax of trades", town.pass(1), 2 * 20 - 27);
        town.setTax(false, 0);
        Check.due("the month without taxes", town.pass(1), -27);
        Check.due("earned", town.earned(), -27 - 13 + 21 + 13 - 27);
        Check.due("cash", town.cash(), 580 - 40 - 33);
    }
}
