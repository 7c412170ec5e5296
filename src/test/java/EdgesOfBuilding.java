/** Promises 1 to 3: a new object, build and tear. */
final class EdgesOfBuilding {
    private static final String NO_CELL = "Throws `IndexOutOfBoundsException` if there is no such cell";
    private static final String COSTS = "A road costs 10, a zone 20, a park 30, power works 200, water works 150.";
    private static final String BUILD_STATE =
        "Throws `IllegalStateException` if the cell is not empty, or the cash is less than the cost";
    private static final String TEAR_STATE =
        "Throws `IllegalStateException` if it is empty, or the cash is less than 5";

    private EdgesOfBuilding() {
    }

    static void all() {
        aNewBoardIsEmpty();
        townsAreApart();
        buildOnTheFirstAndLastCell();
        buildOfTheLeastAndGreatestKind();
        buildOnNoCell();
        buildOfNoKind();
        buildOnlyOnEmptyCells();
        buildTakesTheCost();
        buildWithJustTheCost();
        buildReturnsTheCash();
        aFullBoard();
        tearTheFirstAndLastCell();
        tearCostsFive();
        tearReturnsWhatItWas();
        tearNoCell();
        tearAnEmptyCell();
        tearWithJustFive();
    }

    private static void aNewBoardIsEmpty() {
        Edge.of("Promise 1", "Creates an empty board.");
        MillbrookBorough town = new MillbrookBorough();
        for (int cell = 0; cell < 64; cell++) {
            Check.due("kind", town.kind(cell), 0);
            Check.due("level", town.level(cell), 0);
            Check.due("net", town.net(cell), -1);
            Check.due("is served", town.isServed(cell), false);
            Check.due("placed", town.placed(cell), 0);
            Check.due("value", town.value(cell), 10);
        }
        Check.due("earned", town.earned(), 0);
        Check.due("steps", town.steps(0, 63), -1);
        Check.due("going", town.going(0, 63), 0);
        Check.due("power left", town.powerLeft(63), 0);
        Check.due("traffic", town.traffic(0), 0);
        Check.due("months of an empty board", town.pass(12), 0);
    }

    private static void townsAreApart() {
        Edge.of("Promise 1", "Creates an empty board.");
        MillbrookBorough one = Towns.grown(Towns.HOMES, Towns.TRADES);
        MillbrookBorough other = new MillbrookBorough();
        one.setTax(false, 20);
        one.borrow(7);
        Check.due("kind", other.kind(0), 0);
        Check.due("net", other.net(8), -1);
        Check.due("cash", other.cash(), 1000);
        Check.due("debt", other.debt(), 0);
        Check.due("tax", other.setTax(false, 1), 3);
        other.build(63, Towns.PARK);
        Check.due("level of the one", one.level(0), 3);
        Check.due("kind of the one", one.kind(63), 0);
        Check.due("tax of the one", one.setTax(false, 1), 20);
    }

    private static void buildOnTheFirstAndLastCell() {
        Edge.of("Promise 2", "`cell`: 0 to 63");
        MillbrookBorough town = new MillbrookBorough();
        Check.due("build(0, 1)", town.build(0, 1), 990);
        Check.due("build(63, 1)", town.build(63, 1), 980);
        Check.due("kind of 0", town.kind(0), 1);
        Check.due("kind of 63", town.kind(63), 1);
        Check.due("kind of 1", town.kind(1), 0);
        Check.due("kind of 62", town.kind(62), 0);
    }

    private static void buildOfTheLeastAndGreatestKind() {
        Edge.of("Promise 2", "`kind`: 1 to 6");
        for (int kind = 1; kind <= 6; kind++) {
            MillbrookBorough town = new MillbrookBorough();
            Check.due("build(0, " + kind + ")", town.build(0, kind), 1000 - Towns.costOf(kind));
            Check.due("kind", town.kind(0), kind);
        }
    }

    private static void buildOnNoCell() {
        Edge.of("Promise 2", NO_CELL);
        MillbrookBorough town = new MillbrookBorough();
        int[] cells = {-1, 64, Integer.MIN_VALUE, Integer.MAX_VALUE};
        for (int cell : cells) {
            Check.dueThrow("build(" + cell + ", 1)", Check.INDEX, () -> town.build(cell, 1));
        }
        Check.due("cash", town.cash(), 1000);
    }

    private static void buildOfNoKind() {
        Edge.of("Promise 2", "Throws `IllegalArgumentException` if kind is out of range");
        MillbrookBorough town = new MillbrookBorough();
        int[] kinds = {0, 7, -1, Integer.MIN_VALUE, Integer.MAX_VALUE};
        for (int kind : kinds) {
            Check.dueThrow("build(5, " + kind + ")", Check.ARGUMENT, () -> town.build(5, kind));
        }
        Check.due("kind", town.kind(5), 0);
        Check.due("cash", town.cash(), 1000);
    }

    private static void buildOnlyOnEmptyCells() {
        Edge.of("Promise 2", BUILD_STATE);
        for (int there = 1; there <= 6; there++) {
            MillbrookBorough town = new MillbrookBorough();
            town.build(63, there);
            for (int kind = 1; kind <= 6; kind++) {
                int tried = kind;
                Check.dueThrow("build(63, " + kind + ") on " + there, Check.STATE, () -> town.build(63, tried));
            }
            Check.due("kind as before", town.kind(63), there);
            Check.due("cash as before", town.cash(), 1000 - Towns.costOf(there));
            town.tear(63);
            town.build(63, 7 - there);
            Check.due("kind built on the torn cell", town.kind(63), 7 - there);
        }
    }

    private static void buildTakesTheCost() {
        Edge.of("Promise 2", COSTS);
        MillbrookBorough town = new MillbrookBorough();
        Check.due("a road", town.build(0, 1), 990);
        Check.due("homes", town.build(1, 2), 970);
        Check.due("trades", town.build(2, 3), 950);
        Check.due("a park", town.build(3, 4), 920);
        Check.due("power works", town.build(4, 5), 720);
        Check.due("water works", town.build(5, 6), 570);
    }

    /** Five power works take all the cash of the begin, and the loan is just the cost, or 1 less. */
    private static void buildWithJustTheCost() {
        Edge.of("Promise 2", BUILD_STATE);
        for (int kind = 1; kind <= 6; kind++) {
            int tried = kind;
            MillbrookBorough town = Towns.drawn(0, "EEEEE");
            Check.dueThrow("build(63, " + kind + ") with nothing", Check.STATE, () -> town.build(63, tried));
            town.borrow(Towns.costOf(kind) - 1);
            Check.dueThrow("build(63, " + kind + ") with 1 too few", Check.STATE, () -> town.build(63, tried));
            Check.due("kind as before", town.kind(63), 0);
            town.borrow(1);
            Check.due("build(63, " + kind + ") with just the cost", town.build(63, kind), 0);
            Check.due("kind then", town.kind(63), kind);
        }
    }

    private static void buildReturnsTheCash() {
        Edge.of("Promise 2", "Returns the cash then.");
        MillbrookBorough town = new MillbrookBorough();
        town.borrow(1000);
        Check.due("build behind a loan", town.build(0, 4), 1970);
        town.pass(1);
        Check.due("build behind a month", town.build(1, 2), 1970 - 12 - 20);
        Check.due("cash", town.cash(), 1938);
    }

    private static void aFullBoard() {
        Edge.of("Promise 2", "Builds on an empty cell.");
        MillbrookBorough town = new MillbrookBorough();
        Towns.borrowAll(town, 1000);
        for (int cell = 0; cell < 64; cell++) {
            Check.due("build", town.build(cell, 2 + cell % 2), 2000 - 20 * (cell + 1));
        }
        for (int cell = 0; cell < 64; cell++) {
            int full = cell;
            Check.dueThrow("build on a full board", Check.STATE, () -> town.build(full, 1));
            Check.due("kind of a full board", town.kind(cell), 2 + cell % 2);
        }
        Check.due("tear on a full board", town.tear(33), 3);
        Check.due("build on the only empty cell", town.build(33, 1), 2000 - 1280 - 15);
    }

    private static void tearTheFirstAndLastCell() {
        Edge.of("Promise 3", "`cell`: 0 to 63");
        MillbrookBorough town = Towns.drawn(0, "#P", "", "", "", "", "", "", "......PE");
        Check.due("tear(0)", town.tear(0), 1);
        Check.due("tear(63)", town.tear(63), 5);
        Check.due("kind of 0", town.kind(0), 0);
        Check.due("kind of 63", town.kind(63), 0);
        Check.due("kind of 1", town.kind(1), 4);
        Check.due("kind of 62", town.kind(62), 4);
    }

    private static void tearCostsFive() {
        Edge.of("Promise 3", "Tears down what is on a cell, for 5.");
        for (int kind = 1; kind <= 6; kind++) {
            MillbrookBorough town = new MillbrookBorough();
            town.build(9, kind);
            town.tear(9);
            Check.due("cash behind a tear", town.cash(), 1000 - Towns.costOf(kind) - 5);
            Check.due("kind behind a tear", town.kind(9), 0);
            Check.due("value behind a tear", town.value(9), 10);
            Check.due("net behind a tear", town.net(9), -1);
        }
    }

    private static void tearReturnsWhatItWas() {
        Edge.of("Promise 3", "Returns what it was, 1 to 6.");
        MillbrookBorough town = Towns.drawn(0, "#HTPEW");
        for (int kind = 1; kind <= 6; kind++) {
            Check.due("tear", town.tear(kind - 1), kind);
        }
    }

    private static void tearNoCell() {
        Edge.of("Promise 3", NO_CELL);
        MillbrookBorough town = new MillbrookBorough();
        int[] cells = {-1, 64, Integer.MIN_VALUE, Integer.MAX_VALUE};
        for (int cell : cells) {
            Check.dueThrow("tear(" + cell + ")", Check.INDEX, () -> town.tear(cell));
        }
        Check.due("cash", town.cash(), 1000);
    }

    private static void tearAnEmptyCell() {
        Edge.of("Promise 3", TEAR_STATE);
        MillbrookBorough town = new MillbrookBorough();
        Check.dueThrow("tear(0) of a new board", Check.STATE, () -> town.tear(0));
        town.build(0, 1);
        town.tear(0);
        Check.dueThrow("tear(0) again", Check.STATE, () -> town.tear(0));
        Check.due("cash", town.cash(), 985);
    }

    private static void tearWithJustFive() {
        Edge.of("Promise 3", TEAR_STATE);
        MillbrookBorough town = Towns.drawn(0, "EEEEE");
        Check.dueThrow("tear(0) with nothing", Check.STATE, () -> town.tear(0));
        town.borrow(4);
        Check.dueThrow("tear(0) with 4", Check.STATE, () -> town.tear(0));
        Check.due("kind as before", town.kind(0), 5);
        town.borrow(1);
        Check.due("tear(0) with 5", town.tear(0), 5);
        Check.due("cash then", town.cash(), 0);
    }
}
