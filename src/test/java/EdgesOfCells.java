/** Promises 11 to 21: what is asked about cells. */
final class EdgesOfCells {
    private static final String CELL = "`cell`: 0 to 63";
    private static final String NO_CELL = "Throws `IndexOutOfBoundsException` if there is no such cell";
    private static final int[] NO_CELLS = {-1, 64, 65, Integer.MIN_VALUE, Integer.MAX_VALUE};
    private static final int[] NO_PLACES = {-1, Integer.MIN_VALUE, Integer.MAX_VALUE};
    private static final String[] TEXTS = {".", "#", "H0", "T0", "park", "power", "water"};

    private interface Question {
        long ask(MillbrookBorough town, int cell);
    }

    private EdgesOfCells() {
    }

    static void all() {
        kinds();
        levels();
        signs();
        nets();
        steps();
        served();
        placed();
        traffic();
        values();
        powerLeft();
        going();
    }

    /** The first and the last cell answer; those next to them, and the least and the greatest int, are none. */
    private static void dueCells(String promise, MillbrookBorough town, Question question, long first, long last) {
        dueCells(promise, CELL, town, question, first, last);
    }

    private static void dueCells(String promise, String bounds, MillbrookBorough town, Question question,
            long first, long last) {
        Edge.of(promise, bounds);
        Check.due("the first cell", question.ask(town, 0), first);
        Check.due("the last cell", question.ask(town, 63), last);
        Edge.of(promise, NO_CELL);
        for (int cell : NO_CELLS) {
            Check.dueThrow("the cell " + cell, Check.INDEX, () -> question.ask(town, cell));
        }
    }

    private static void kinds() {
        dueCells("Promise 11", Towns.corners(true), MillbrookBorough::kind, Towns.HOMES, Towns.TRADES);
        dueCells("Promise 11", new MillbrookBorough(), MillbrookBorough::kind, 0, 0);
        Edge.of("Promise 11", "Returns what is on a cell.");
        MillbrookBorough town = Towns.corners(true);
        Check.due("kind behind months", town.kind(0), Towns.HOMES);
        town.tear(0);
        Check.due("kind behind a tear", town.kind(0), 0);
        town.build(0, Towns.WATER);
        Check.due("kind behind a build", town.kind(0), Towns.WATER);
        Edge.of("Promise 11", "Returns 0 to 6.");
        town = Towns.drawn(0, ".#HTPEW");
        for (int kind = 0; kind <= 6; kind++) {
            Check.due("kind", town.kind(kind), kind);
        }
    }

    private static void levels() {
        dueCells("Promise 12", Towns.corners(true), MillbrookBorough::level, 1, 1);
        Edge.of("Promise 12", "Returns the level of a cell.");
        MillbrookBorough town = Towns.street();
        town.build(0, Towns.HOMES);
        town.build(4, Towns.TRADES);
        Towns.buildAll(town, Towns.PARK, 1, 3, 16, 20);
        for (int level = 0; level <= 3; level++) {
            Check.due("level of homes", town.level(0), level);
            Check.due("level of trades", town.level(4), level);
            town.pass(1);
        }
        Edge.of("Promise 12", "Returns the level, 0 if it is no zone.");
        int[] others = {1, 2, 6, 8, 15, 63};
        for (int cell : others) {
            Check.due("level of what is no zone, " + cell, town.level(cell), 0);
        }
        town.tear(0);
        Check.due("level of a torn zone", town.level(0), 0);
        town.build(0, Towns.ROAD);
        Check.due("level of a road on a torn zone", town.level(0), 0);
    }

    private static void signs() {
        dueCells("Promise 13", Towns.corners(true), (town, cell) -> town.sign(cell, 0), 'H', 'T');
        dueCells("Promise 13", new MillbrookBorough(), (town, cell) -> town.sign(cell, 0), '.', '.');
        everyPlaceOfEachText();
        noSuchPlace();
        levelsInSigns();
        Edge.of("Promise 13", "Throws `IndexOutOfBoundsException` if there is no such cell or place");
        for (int cell : NO_CELLS) {
            for (int place : NO_PLACES) {
                Check.dueThrow("neither cell nor place", Check.INDEX, () -> new MillbrookBorough().sign(cell, place));
            }
        }
    }

    private static void everyPlaceOfEachText() {
        Edge.of("Promise 13", "Returns a character of the text of a cell: \".\" for an empty one, \"#\" for a road,"
            + " \"H\" or \"T\" and the level for zones, \"park\", \"power\" and \"water\".");
        MillbrookBorough town = Towns.drawn(0, ".#HTPEW");
        for (int cell = 0; cell < TEXTS.length; cell++) {
            for (int place = 0; place < TEXTS[cell].length(); place++) {
                Check.due("place " + place + " of " + TEXTS[cell], town.sign(cell, place), TEXTS[cell].charAt(place));
            }
        }
        Edge.of("Promise 13", "`place`: 0 for the first character");
        for (int cell = 0; cell < TEXTS.length; cell++) {
            Check.due("place 0 of " + TEXTS[cell], town.sign(cell, 0), TEXTS[cell].charAt(0));
        }
        Edge.of("Promise 13", "Returns the character.");
        Check.due("the last character of water", town.sign(6, 4), 'r');
        Check.due("the last character of homes", town.sign(2, 1), '0');
    }

    private static void noSuchPlace() {
        Edge.of("Promise 13", "Throws `IndexOutOfBoundsException` if there is no such cell or place");
        MillbrookBorough town = Towns.drawn(0, ".#HTPEW");
        for (int cell = 0; cell < TEXTS.length; cell++) {
            int asked = cell;
            int length = TEXTS[cell].length();
            for (int more = 0; more < 8; more++) {
                int place = length + more;
                Check.dueThrow("place " + place + " of " + TEXTS[cell], Check.INDEX, () -> town.sign(asked, place));
            }
            for (int place : NO_PLACES) {
                Check.dueThrow("place " + place + " of " + TEXTS[cell], Check.INDEX, () -> town.sign(asked, place));
            }
        }
    }

    private static void levelsInSigns() {
        Edge.of("Promise 13", "\"H\" or \"T\" and the level for zones");
        MillbrookBorough town = Towns.street();
        town.build(0, Towns.HOMES);
        town.build(4, Towns.TRADES);
        Towns.buildAll(town, Towns.PARK, 1, 3, 16, 20);
        for (int level = 0; level <= 3; level++) {
            Check.due("letter of homes", town.sign(0, 0), 'H');
            Check.due("level of homes", town.sign(0, 1), '0' + level);
            Check.due("letter of trades", town.sign(4, 0), 'T');
            Check.due("level of trades", town.sign(4, 1), '0' + level);
            Check.dueThrow("the place behind homes", Check.INDEX, () -> town.sign(0, 2));
            Check.dueThrow("the place behind trades", Check.INDEX, () -> town.sign(4, 2));
            town.pass(1);
        }
    }

    private static void nets() {
        dueCells("Promise 14", Towns.corners(true), MillbrookBorough::net, 8, 8);
        dueCells("Promise 14", Towns.longWay(), MillbrookBorough::net, 0, 0);
        Edge.of("Promise 14", "Returns the net of a cell.");
        MillbrookBorough town = Towns.longWay();
        Check.due("net of homes", town.net(8), 0);
        Check.due("net of an empty cell", town.net(9), 0);
        town.tear(0);
        Check.due("net of a torn road's cell", town.net(0), 1);
        Check.due("net of homes that lost their road", town.net(8), -1);
        Edge.of("Promise 14", "Returns the lowest cell of the net, -1 if the cell belongs to none.");
        Check.due("net without its lowest road", town.net(63), 1);
        Check.due("net of a cell that is two away from roads", town.net(21), -1);
        Check.due("net of an empty board", new MillbrookBorough().net(63), -1);
    }

    private static void steps() {
        dueCells("Promise 15", "`one`: 0 to 63", Towns.longWay(), (town, one) -> town.steps(one, 0), 0, 14);
        dueCells("Promise 15", "`other`: 0 to 63", Towns.longWay(), (town, other) -> town.steps(0, other), 0, 14);
        dueCells("Promise 15", "`one`: 0 to 63", Towns.corners(true), (town, one) -> town.steps(one, 63), 12, 0);
        Edge.of("Promise 15", NO_CELL);
        for (int cell : NO_CELLS) {
            Check.dueThrow("steps without cells", Check.INDEX, () -> new MillbrookBorough().steps(cell, cell));
        }
        Edge.of("Promise 15", "Returns the distance by road of the roads of two cells (of a road that itself).");
        MillbrookBorough town = Towns.longWay();
        Check.due("of homes to their road", town.steps(8, 0), 0);
        Check.due("of homes to the next road", town.steps(8, 1), 1);
        Check.due("of homes and an empty cell", town.steps(8, 9), 1);
        Check.due("of homes to themselves", town.steps(8, 8), 0);
        Check.due("of a road to itself", town.steps(7, 7), 0);
        Check.due("of homes and trades", town.steps(8, 62), 14);
        Check.due("of trades and homes", town.steps(62, 8), 14);
        Edge.of("Promise 15", "Returns the number of steps, -1 if they do not belong to one net.");
        for (int cell = 0; cell < 64; cell++) {
            Check.due("to a cell without a road", town.steps(cell, 56), -1);
            Check.due("from a cell without a road", town.steps(56, cell), -1);
        }
        Check.due("of two without a road", town.steps(56, 57), -1);
        town.tear(3);
        Check.due("of two nets", town.steps(2, 4), -1);
        Check.due("of zones of two nets", town.steps(8, 62), -1);
        Check.due("of the torn road's cell, which has the road 2", town.steps(3, 2), 0);
    }

    private static void served() {
        Question question = (town, cell) -> town.isServed(cell) ? 1 : 0;
        dueCells("Promise 16", Towns.corners(true), question, 1, 1);
        dueCells("Promise 16", Towns.longWay(), question, 0, 0);
        Edge.of("Promise 16", "Returns whether a zone is served.");
        MillbrookBorough town = Towns.street();
        town.build(0, Towns.HOMES);
        Check.due("homes with a net, power and water", town.isServed(0), true);
        town.tear(6);
        Check.due("homes without water", town.isServed(0), false);
        town.build(6, Towns.WATER);
        town.tear(15);
        Check.due("homes without power", town.isServed(0), false);
        town.build(15, Towns.POWER);
        town.tear(8);
        Check.due("homes without a net", town.isServed(0), false);
        Edge.of("Promise 16", "Returns true if it is a zone, and is served.");
        int[] others = {1, 6, 9, 15, 17, 63};
        for (int cell : others) {
            Check.due("what is no zone, " + cell, town.isServed(cell), false);
        }
        town.build(8, Towns.PARK);
        Check.due("a park beside a road", town.isServed(8), false);
    }

    private static void placed() {
        dueCells("Promise 17", Towns.corners(true), MillbrookBorough::placed, 2, 2);
        Edge.of("Promise 17", "Returns how many of the workers of a zone for homes have jobs,"
            + " or how many jobs of a zone for trades are taken.");
        MillbrookBorough town = Towns.grown(Towns.HOMES, Towns.TRADES);
        Check.due("homes of level 3", town.placed(0), 6);
        Check.due("trades of level 3", town.placed(4), 6);
        town.build(2, Towns.TRADES);
        Check.due("trades of level 0", town.placed(2), 0);
        Edge.of("Promise 17", "Returns the number, 0 if it is no zone.");
        int[] others = {1, 5, 6, 8, 10, 15, 63};
        for (int cell : others) {
            Check.due("what is no zone, " + cell, town.placed(cell), 0);
        }
        town.tear(0);
        Check.due("homes that were torn", town.placed(0), 0);
        Check.due("trades without them", town.placed(4), 0);
    }

    private static void traffic() {
        dueCells("Promise 18", Towns.longWay(), MillbrookBorough::traffic, 2, 2);
        Edge.of("Promise 18", "Returns the traffic of a road.");
        MillbrookBorough town = Towns.longWay();
        for (int cell = 0; cell < 64; cell++) {
            boolean isRoad = cell < 8 || cell % 8 == 7;
            Check.due("traffic of " + cell, town.traffic(cell), isRoad ? 2 : 0);
        }
        Edge.of("Promise 18", "Returns the number, 0 if it is no road.");
        town = Towns.grown(Towns.HOMES, Towns.TRADES);
        Check.due("a road with all", town.traffic(9), 6);
        int[] others = {0, 1, 2, 4, 6, 15, 63};
        for (int cell : others) {
            Check.due("what is no road, " + cell, town.traffic(cell), 0);
        }
        town.tear(9);
        Check.due("a torn road", town.traffic(9), 0);
        Check.due("a road that leads nowhere now", town.traffic(8), 0);
    }

    private static void values() {
        MillbrookBorough ends = Towns.drawn(0, "P", "", "", "", "", "", "", ".......E");
        dueCells("Promise 19", ends, MillbrookBorough::value, 15, 0);
        dueCells("Promise 19", Towns.corners(false), MillbrookBorough::value, 8, 8);
        Edge.of("Promise 19", "Returns the value of a cell.");
        Check.due("value of an empty cell", ends.value(30), 10);
        Check.due("value near the park", ends.value(16), 15);
        Check.due("value near the power works", ends.value(47), 0);
        Edge.of("Promise 19", "Returns the value.");
        ends.tear(0);
        Check.due("value without the park", ends.value(16), 10);
        ends.tear(63);
        Check.due("value without the power works", ends.value(47), 10);
    }

    private static void powerLeft() {
        String bounds = "`cell`: 0 to 63, a cell of the net";
        dueCells("Promise 20", bounds, Towns.corners(true), MillbrookBorough::powerLeft, 18, 18);
        dueCells("Promise 20", bounds, Towns.longWay(), MillbrookBorough::powerLeft, 18, 18);
        Edge.of("Promise 20", "Returns what is left of the power of a net, behind all zones that are served.");
        MillbrookBorough town = Towns.longWay();
        int[] cells = {7, 8, 9, 12, 13, 54, 62};
        for (int cell : cells) {
            Check.due("told at the cell " + cell, town.powerLeft(cell), 18);
        }
        town.tear(13);
        Check.due("behind zones that are not served", town.powerLeft(0), 20);
        town.tear(12);
        Check.due("without power works", town.powerLeft(0), 0);
        Edge.of("Promise 20", "Returns the power, 0 if the cell belongs to none.");
        town = Towns.longWay();
        Check.due("a cell without a road", town.powerLeft(56), 0);
        Check.due("an empty board", new MillbrookBorough().powerLeft(0), 0);
        town = Towns.drawn(0, "#.E");
        Check.due("works without a road", town.powerLeft(2), 0);
        Check.due("a net without works", town.powerLeft(0), 0);
    }

    private static void going() {
        dueCells("Promise 21", "`home`: 0 to 63", Towns.corners(true), (town, home) -> town.going(home, 63), 2, 0);
        dueCells("Promise 21", "`home`: 0 to 63", Towns.corners(false), (town, home) -> town.going(home, 0), 0, 2);
        dueCells("Promise 21", "`trade`: 0 to 63", Towns.corners(true), (town, trade) -> town.going(0, trade), 0, 2);
        dueCells("Promise 21", "`trade`: 0 to 63", Towns.corners(false), (town, trade) -> town.going(63, trade), 2, 0);
        Edge.of("Promise 21", NO_CELL);
        for (int cell : NO_CELLS) {
            Check.dueThrow("going without cells", Check.INDEX, () -> new MillbrookBorough().going(cell, cell));
        }
        Edge.of("Promise 21", "Returns how many workers go from a zone for homes to one for trades.");
        MillbrookBorough town = Towns.twoPairs();
        Check.due("all of the lower homes", town.going(1, 5), 4);
        Check.due("none of them to the other trades", town.going(1, 21), 0);
        Check.due("none of the higher homes to the lower trades", town.going(17, 5), 0);
        Check.due("all of the higher homes", town.going(17, 21), 6);
        Edge.of("Promise 21", "Returns the number, 0 if they are not such zones.");
        Check.due("from trades to homes", town.going(5, 1), 0);
        Check.due("from homes to homes", town.going(1, 17), 0);
        Check.due("from homes to themselves", town.going(1, 1), 0);
        Check.due("from trades to trades", town.going(5, 21), 0);
        Check.due("from a road", town.going(9, 5), 0);
        Check.due("to a road", town.going(1, 13), 0);
        Check.due("from an empty cell", town.going(3, 5), 0);
        Check.due("to an empty cell", town.going(1, 63), 0);
        town.tear(5);
        Check.due("to what was torn", town.going(1, 5), 0);
        town.tear(17);
        Check.due("from what was torn", town.going(17, 21), 0);
        Check.due("to the other trades then", town.going(1, 21), 4);
    }
}
