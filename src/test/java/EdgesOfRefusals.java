/** Terms: which exception a call throws, which goes first, and that nothing is changed by it. */
final class EdgesOfRefusals {
    private static final int[] NO_CELLS = {-1, 64, Integer.MIN_VALUE, Integer.MAX_VALUE};

    private EdgesOfRefusals() {
    }

    static void all() {
        eachReasonHasItsException();
        indexGoesFirst();
        argumentGoesBeforeState();
        noCellChangesNothing();
        noArgumentChangesNothing();
        notPossibleChangesNothing();
    }

    /** Level 3 on 0 and 4, a debt of 7 and other taxes than those of the begin. */
    private static MillbrookBorough lively() {
        MillbrookBorough town = Towns.grown(Towns.HOMES, Towns.TRADES);
        town.borrow(7);
        town.setTax(false, 5);
        town.setTax(true, 9);
        return town;
    }

    /** The same with a cash of 2 and a debt of 5000; 62 has power works, 63 is empty. */
    private static MillbrookBorough poor() {
        MillbrookBorough town = lively();
        Towns.borrowAll(town, 4993);
        for (int cell = 38; cell < 64; cell++) {
            town.build(cell, Towns.POWER);
        }
        town.build(37, Towns.WATER);
        town.tear(63);
        return town;
    }

    private static void eachReasonHasItsException() {
        Edge.of("Terms",
            "IndexOutOfBoundsException is thrown for a cell that does not exist, IllegalArgumentException"
            + " for another argument out of range, and IllegalStateException if a call is not possible now.");
        MillbrookBorough town = new MillbrookBorough();
        Check.dueThrow("a cell that does not exist", Check.INDEX, () -> town.build(64, 1));
        Check.dueThrow("a place that does not exist", Check.INDEX, () -> town.sign(0, 1));
        Check.dueThrow("a kind out of range", Check.ARGUMENT, () -> town.build(0, 7));
        Check.dueThrow("a tax out of range", Check.ARGUMENT, () -> town.setTax(true, 21));
        Check.dueThrow("a loan out of range", Check.ARGUMENT, () -> town.borrow(1001));
        Check.dueThrow("a repay out of range", Check.ARGUMENT, () -> town.repay(5001));
        Check.dueThrow("months out of range", Check.ARGUMENT, () -> town.pass(13));
        Check.dueThrow("a repay without debt", Check.STATE, () -> town.repay(1));
        Check.dueThrow("a tear of an empty cell", Check.STATE, () -> town.tear(0));
    }

    private static void indexGoesFirst() {
        Edge.of("Terms", "If several apply, IndexOutOfBoundsException goes first, then IllegalArgumentException.");
        MillbrookBorough poor = poor();
        for (int cell : NO_CELLS) {
            Check.dueThrow("no cell and no kind", Check.INDEX, () -> new MillbrookBorough().build(cell, 0));
            Check.dueThrow("no cell and no kind", Check.INDEX, () -> new MillbrookBorough().build(cell, 7));
            Check.dueThrow("no cell and no cash", Check.INDEX, () -> poor.build(cell, 5));
            Check.dueThrow("no cell, no kind and no cash", Check.INDEX, () -> poor.build(cell, cell));
            Check.dueThrow("no cell to tear and no cash", Check.INDEX, () -> poor.tear(cell));
        }
    }

    private static void argumentGoesBeforeState() {
        Edge.of("Terms", "then IllegalArgumentException");
        MillbrookBorough poor = poor();
        int[] kinds = {0, 7, Integer.MIN_VALUE, Integer.MAX_VALUE};
        for (int kind : kinds) {
            Check.dueThrow("no kind, on a full cell", Check.ARGUMENT, () -> lively().build(0, kind));
            Check.dueThrow("no kind, without cash", Check.ARGUMENT, () -> poor.build(63, kind));
            Check.dueThrow("no kind, on a full cell without cash", Check.ARGUMENT, () -> poor.build(62, kind));
        }
        Check.dueThrow("too great a loan for two reasons", Check.ARGUMENT, () -> poor.borrow(1001));
        Check.dueThrow("a loan of nothing on full debt", Check.ARGUMENT, () -> poor.borrow(0));
        Check.dueThrow("the greatest int on full debt", Check.ARGUMENT, () -> poor.borrow(Integer.MAX_VALUE));
        Check.dueThrow("too great a repay for three reasons", Check.ARGUMENT, () -> poor.repay(5001));
        Check.dueThrow("a repay of nothing without debt", Check.ARGUMENT, () -> new MillbrookBorough().repay(0));
        Check.dueThrow("the greatest int without debt", Check.ARGUMENT,
            () -> new MillbrookBorough().repay(Integer.MAX_VALUE));
    }

    private static void noCellChangesNothing() {
        Edge.of("Terms", "A call that throws an exception changes nothing.");
        for (int cell : NO_CELLS) {
            Twins.dueRefusal("build", Check.INDEX, EdgesOfRefusals::lively, town -> town.build(cell, 1));
            Twins.dueRefusal("tear", Check.INDEX, EdgesOfRefusals::lively, town -> town.tear(cell));
            Twins.dueRefusal("kind", Check.INDEX, EdgesOfRefusals::lively, town -> town.kind(cell));
            Twins.dueRefusal("level", Check.INDEX, EdgesOfRefusals::lively, town -> town.level(cell));
            Twins.dueRefusal("sign", Check.INDEX, EdgesOfRefusals::lively, town -> town.sign(cell, 0));
            Twins.dueRefusal("place", Check.INDEX, EdgesOfRefusals::lively, town -> town.sign(0, cell));
            Twins.dueRefusal("net", Check.INDEX, EdgesOfRefusals::lively, town -> town.net(cell));
            Twins.dueRefusal("steps", Check.INDEX, EdgesOfRefusals::lively, town -> town.steps(0, cell));
            Twins.dueRefusal("isServed", Check.INDEX, EdgesOfRefusals::lively, town -> town.isServed(cell));
            Twins.dueRefusal("placed", Check.INDEX, EdgesOfRefusals::lively, town -> town.placed(cell));
            Twins.dueRefusal("traffic", Check.INDEX, EdgesOfRefusals::lively, town -> town.traffic(cell));
            Twins.dueRefusal("value", Check.INDEX, EdgesOfRefusals::lively, town -> town.value(cell));
            Twins.dueRefusal("powerLeft", Check.INDEX, EdgesOfRefusals::lively, town -> town.powerLeft(cell));
            Twins.dueRefusal("going", Check.INDEX, EdgesOfRefusals::lively, town -> town.going(0, cell));
        }
    }

    private static void noArgumentChangesNothing() {
        Edge.of("Terms", "A call that throws an exception changes nothing.");
        int[] numbers = {-1, 5001, Integer.MIN_VALUE, Integer.MAX_VALUE};
        for (int number : numbers) {
            Twins.dueRefusal("build", Check.ARGUMENT, EdgesOfRefusals::lively, town -> town.build(2, number));
            Twins.dueRefusal("setTax, homes", Check.ARGUMENT, EdgesOfRefusals::lively,
                town -> town.setTax(false, number));
            Twins.dueRefusal("setTax, trades", Check.ARGUMENT, EdgesOfRefusals::lively,
                town -> town.setTax(true, number));
            Twins.dueRefusal("borrow", Check.ARGUMENT, EdgesOfRefusals::lively, town -> town.borrow(number));
            Twins.dueRefusal("repay", Check.ARGUMENT, EdgesOfRefusals::lively, town -> town.repay(number));
            Twins.dueRefusal("pass", Check.ARGUMENT, EdgesOfRefusals::lively, town -> town.pass(number));
        }
    }

    private static void notPossibleChangesNothing() {
        Edge.of("Terms", "A call that throws an exception changes nothing.");
        MillbrookBorough poor = poor();
        Check.due("cash of the poor town", poor.cash(), 2);
        Check.due("debt of the poor town", poor.debt(), 5000);
        Twins.dueRefusal("build on homes", Check.STATE, EdgesOfRefusals::lively, town -> town.build(0, 3));
        Twins.dueRefusal("build without cash", Check.STATE, EdgesOfRefusals::poor, town -> town.build(63, 1));
        Twins.dueRefusal("tear of nothing", Check.STATE, EdgesOfRefusals::lively, town -> town.tear(63));
        Twins.dueRefusal("tear without cash", Check.STATE, EdgesOfRefusals::poor, town -> town.tear(0));
        Twins.dueRefusal("borrow above 5000", Check.STATE, EdgesOfRefusals::poor, town -> town.borrow(1));
        Twins.dueRefusal("repay above the debt", Check.STATE, EdgesOfRefusals::lively, town -> town.repay(8));
        Twins.dueRefusal("repay above the cash", Check.STATE, EdgesOfRefusals::poor, town -> town.repay(3));
    }
}
