import java.util.Arrays;

/** A town builder by turns. */
public final class MillbrookBorough {
    private static final int SIDE = 8;
    private static final int CELLS = 64;
    private static final int NEIGHBOURS = 4;
    private static final int NONE = -1;

    private static final int EMPTY = 0;
    private static final int ROAD = 1;
    private static final int HOMES = 2;
    private static final int TRADES = 3;
    private static final int PARK = 4;
    private static final int POWER = 5;
    private static final int WATER = 6;

    private static final int TOP_LEVEL = 3;
    private static final int PEOPLE_A_LEVEL = 2;
    private static final int SUPPLY_OF_WORKS = 20;
    private static final int REACH = 2;
    private static final int PLAIN_VALUE = 10;
    private static final int VALUE_OF_PARK = 5;
    private static final int HARM_OF_POWER = 10;
    private static final int VALUE_A_LEVEL = 5;
    private static final int TEAR_COST = 5;
    private static final int MOST_TAX = 20;
    private static final int MOST_BORROWED = 1000;
    private static final int MOST_DEBT = 5000;
    private static final int MOST_MONTHS = 12;

    private final Board board;
    private final Roads roads;
    private final Supply supply;
    private final Jobs jobs;
    private final Ledger ledger;

    public MillbrookBorough() {
        board = new Board();
        roads = new Roads();
        supply = new Supply();
        jobs = new Jobs();
        ledger = new Ledger();
    }

    // ---- building and money

    public int build(int cell, int kind)
            throws IndexOutOfBoundsException, IllegalArgumentException, IllegalStateException {
        requireCell(cell);
        requireRange(kind, ROAD, WATER);
        if (board.kindOf(cell) != EMPTY) {
            throw new IllegalStateException("the cell is not empty");
        }
        requireCash(costOf(kind));
        ledger.spend(costOf(kind));
        board.lay(cell, kind);
        survey();
        return ledger.cashNow();
    }

    public int tear(int cell) throws IndexOutOfBoundsException, IllegalStateException {
        requireCell(cell);
        int kind = board.kindOf(cell);
        if (kind == EMPTY) {
            throw new IllegalStateException("the cell is empty");
        }
        requireCash(TEAR_COST);
        ledger.spend(TEAR_COST);
        board.lay(cell, EMPTY);
        survey();
        return kind;
    }

    public int setTax(boolean trades, int tax) throws IllegalArgumentException {
        requireRange(tax, 0, MOST_TAX);
        return ledger.changeTax(trades, tax);
    }

    public int borrow(int amount) throws IllegalArgumentException, IllegalStateException {
        requireRange(amount, 1, MOST_BORROWED);
        if (ledger.debtNow() + amount > MOST_DEBT) {
            throw new IllegalStateException("the debt would be too great");
        }
        ledger.lend(amount);
        return ledger.debtNow();
    }

    public int repay(int amount) throws IllegalArgumentException, IllegalStateException {
        requireRange(amount, 1, MOST_DEBT);
        if (amount > ledger.debtNow()) {
            throw new IllegalStateException("it is more than the debt");
        }
        requireCash(amount);
        ledger.lend(-amount);
        return ledger.debtNow();
    }

    public int pass(int months) throws IllegalArgumentException {
        requireRange(months, 1, MOST_MONTHS);
        int before = ledger.cashNow();
        for (int month = 0; month < months; month++) {
            passMonth();
        }
        return ledger.cashNow() - before;
    }

    // ---- money; the numbers of months

    public int cash() {
        return ledger.cashNow();
    }

    public int debt() {
        return ledger.debtNow();
    }

    public int earned() {
        return ledger.earnedNow();
    }

    // ---- cells; all is found by what is on the board now

    public int kind(int cell) throws IndexOutOfBoundsException {
        requireCell(cell);
        return board.kindOf(cell);
    }

    public int level(int cell) throws IndexOutOfBoundsException {
        requireCell(cell);
        return board.levelOf(cell);
    }

    public char sign(int cell, int place) throws IndexOutOfBoundsException {
        requireCell(cell);
        String text = board.textOf(cell);
        if (place < 0 || place >= text.length()) {
            throw new IndexOutOfBoundsException("no such place");
        }
        return text.charAt(place);
    }

    public int net(int cell) throws IndexOutOfBoundsException {
        requireCell(cell);
        return roads.netOf(cell);
    }

    public int steps(int one, int other) throws IndexOutOfBoundsException {
        requireCell(one);
        requireCell(other);
        return roads.between(one, other);
    }

    public boolean isServed(int cell) throws IndexOutOfBoundsException {
        requireCell(cell);
        return supply.serves(cell);
    }

    public int placed(int cell) throws IndexOutOfBoundsException {
        requireCell(cell);
        return jobs.placedAt(cell);
    }

    public int traffic(int cell) throws IndexOutOfBoundsException {
        requireCell(cell);
        return jobs.trafficOn(cell);
    }

    public int value(int cell) throws IndexOutOfBoundsException {
        requireCell(cell);
        return valueOf(cell);
    }

    public int powerLeft(int cell) throws IndexOutOfBoundsException {
        requireCell(cell);
        int net = roads.netOf(cell);
        return net == NONE ? 0 : supply.powerOf(net);
    }

    public int going(int home, int trade) throws IndexOutOfBoundsException {
        requireCell(home);
        requireCell(trade);
        return jobs.goingBetween(home, trade);
    }

    // ---- what the calls are made of

    private static void requireCell(int cell) {
        if (cell < 0 || cell >= CELLS) {
            throw new IndexOutOfBoundsException("no such cell");
        }
    }

    private static void requireRange(int number, int least, int most) {
        if (number < least || number > most) {
            throw new IllegalArgumentException("an argument is out of range");
        }
    }

    private void requireCash(int amount) {
        if (ledger.cashNow() < amount) {
            throw new IllegalStateException("the cash is too little");
        }
    }

    private static int costOf(int kind) {
        switch (kind) {
            case ROAD:
                return 10;
            case HOMES:
            case TRADES:
                return 20;
            case PARK:
                return 30;
            case POWER:
                return 200;
            case WATER:
                return 150;
            default:
                return 0;
        }
    }

    private static int upkeepOf(int kind) {
        switch (kind) {
            case ROAD:
                return 1;
            case PARK:
                return 2;
            case POWER:
            case WATER:
                return 10;
            default:
                return 0;
        }
    }

    /** The sides go by rising cells, so that the first one that fits is the lowest. */
    private static int neighbourOf(int cell, int side) {
        switch (side) {
            case 0:
                return cell >= SIDE ? cell - SIDE : NONE;
            case 1:
                return cell % SIDE > 0 ? cell - 1 : NONE;
            case 2:
                return cell % SIDE < SIDE - 1 ? cell + 1 : NONE;
            case 3:
                return cell < CELLS - SIDE ? cell + SIDE : NONE;
            default:
                return NONE;
        }
    }

    private static int distanceOf(int one, int other) {
        return Math.abs(one / SIDE - other / SIDE) + Math.abs(one % SIDE - other % SIDE);
    }

    /** Done after every change of the board, so that the calls that ask only read. */
    private void survey() {
        roads.find(board);
        supply.find(board, roads);
        jobs.find(board, roads);
    }

    private void passMonth() {
        ledger.closeMonth(jobs.allPlaced(), upkeep());
        changeLevels(ledger.cashNow() >= 0);
        // The roads stay as they are: a month changes levels alone.
        supply.find(board, roads);
        jobs.find(board, roads);
    }

    private int upkeep() {
        int sum = 0;
        for (int cell = 0; cell < CELLS; cell++) {
            sum += upkeepOf(board.kindOf(cell));
        }
        return sum;
    }

    /** All at once: supply, jobs and traffic are still those of the month's beginning. */
    private void changeLevels(boolean mayGrow) {
        for (int cell = 0; cell < CELLS; cell++) {
            if (board.isZone(cell)) {
                board.changeLevel(cell, nextLevel(cell, mayGrow));
            }
        }
    }

    private int nextLevel(int cell, boolean mayGrow) {
        int level = board.levelOf(cell);
        if (!supply.serves(cell) || lacksPeople(cell)) {
            return level > 0 ? level - 1 : 0;
        }
        boolean isFull = jobs.placedAt(cell) == board.peopleOf(cell);
        boolean isWorthIt = valueOf(cell) >= VALUE_A_LEVEL * (level + 1);
        return mayGrow && level < TOP_LEVEL && isFull && isWorthIt ? level + 1 : level;
    }

    private boolean lacksPeople(int cell) {
        int people = board.peopleOf(cell);
        int placed = jobs.placedAt(cell);
        if (board.kindOf(cell) == HOMES) {
            return 2 * (people - placed) > people;
        }
        return people > 0 && placed == 0;
    }

    private int valueOf(int cell) {
        int worth = PLAIN_VALUE;
        worth += VALUE_OF_PARK * board.countNear(cell, PARK);
        worth -= HARM_OF_POWER * board.countNear(cell, POWER);
        int road = roads.roadOf(cell);
        if (road != NONE && road != cell) {
            worth -= jobs.trafficOn(road);
        }
        return Math.max(worth, 0);
    }

    /** A row of numbers that tests each index, so that no access can fail. */
    private static final class Row {
        private final int[] numbers;

        Row(int length, int first) {
            numbers = new int[length > 0 ? length : 0];
            Arrays.fill(numbers, first);
        }

        int get(int index) {
            return index >= 0 && index < numbers.length ? numbers[index] : NONE;
        }

        void set(int index, int number) {
            if (index >= 0 && index < numbers.length) {
                numbers[index] = number;
            }
        }

        void add(int index, int more) {
            if (index >= 0 && index < numbers.length) {
                numbers[index] += more;
            }
        }

        void fill(int number) {
            Arrays.fill(numbers, number);
        }
    }

    /** What is on the cells. */
    private static final class Board {
        private final Row kinds = new Row(CELLS, EMPTY);
        private final Row levels = new Row(CELLS, 0);

        int kindOf(int cell) {
            return kinds.get(cell);
        }

        int levelOf(int cell) {
            return levels.get(cell);
        }

        void lay(int cell, int kind) {
            kinds.set(cell, kind);
            levels.set(cell, 0);
        }

        void changeLevel(int cell, int level) {
            levels.set(cell, level);
        }

        boolean isRoad(int cell) {
            return kinds.get(cell) == ROAD;
        }

        boolean isZone(int cell) {
            int kind = kinds.get(cell);
            return kind == HOMES || kind == TRADES;
        }

        /** The workers of a zone for homes, or the jobs of one for trades. */
        int peopleOf(int cell) {
            return PEOPLE_A_LEVEL * levels.get(cell);
        }

        int countNear(int cell, int kind) {
            int count = 0;
            for (int other = 0; other < CELLS; other++) {
                if (kinds.get(other) == kind && distanceOf(cell, other) <= REACH) {
                    count++;
                }
            }
            return count;
        }

        String textOf(int cell) {
            switch (kinds.get(cell)) {
                case ROAD:
                    return "#";
                case HOMES:
                    return zoneText('H', cell);
                case TRADES:
                    return zoneText('T', cell);
                case PARK:
                    return "park";
                case POWER:
                    return "power";
                case WATER:
                    return "water";
                default:
                    return ".";
            }
        }

        private String zoneText(char letter, int cell) {
            return new StringBuilder().append(letter).append(levels.get(cell)).toString();
        }
    }

    /** The road of each cell, the nets, and the distances by road. */
    private static final class Roads {
        private final Row cellRoads = new Row(CELLS, NONE);
        private final Row roadNets = new Row(CELLS, NONE);
        private final Row distances = new Row(CELLS * CELLS, NONE);
        private final Row queue = new Row(CELLS, NONE);
        private int number = 0;

        void find(Board board) {
            roadNets.fill(NONE);
            distances.fill(NONE);
            number = 0;
            for (int cell = 0; cell < CELLS; cell++) {
                cellRoads.set(cell, findRoad(board, cell));
                if (board.isRoad(cell)) {
                    number++;
                    spread(board, cell);
                }
            }
        }

        private int findRoad(Board board, int cell) {
            if (board.isRoad(cell)) {
                return cell;
            }
            for (int side = 0; side < NEIGHBOURS; side++) {
                int next = neighbourOf(cell, side);
                if (next != NONE && board.isRoad(next)) {
                    return next;
                }
            }
            return NONE;
        }

        /** Starts go by rising roads, so the first start that reaches a road is its net's lowest. */
        private void spread(Board board, int start) {
            int from = start * CELLS;
            distances.set(from + start, 0);
            queue.set(0, start);
            int queued = 1;
            for (int head = 0; head < queued && head < CELLS; head++) {
                int here = queue.get(head);
                if (roadNets.get(here) == NONE) {
                    roadNets.set(here, start);
                }
                for (int side = 0; side < NEIGHBOURS; side++) {
                    int next = neighbourOf(here, side);
                    if (next != NONE && board.isRoad(next) && distances.get(from + next) == NONE) {
                        distances.set(from + next, distances.get(from + here) + 1);
                        queue.set(queued, next);
                        queued++;
                    }
                }
            }
        }

        /** No distance by road is as great as this number. */
        int count() {
            return number;
        }

        int roadOf(int cell) {
            return cellRoads.get(cell);
        }

        int netOf(int cell) {
            int road = cellRoads.get(cell);
            return road == NONE ? NONE : roadNets.get(road);
        }

        int between(int one, int other) {
            int from = cellRoads.get(one);
            int to = cellRoads.get(other);
            return from == NONE || to == NONE ? NONE : distances.get(from * CELLS + to);
        }

        /** The lowest neighbour of a road that is a step nearer to the goal. */
        int nextRoad(int here, int goal) {
            int nearer = distances.get(goal * CELLS + here) - 1;
            for (int side = 0; side < NEIGHBOURS; side++) {
                int next = neighbourOf(here, side);
                if (next != NONE && nearer >= 0 && distances.get(goal * CELLS + next) == nearer) {
                    return next;
                }
            }
            return here;
        }
    }

    /** Power and water; those of a net are kept at its lowest cell. */
    private static final class Supply {
        private final Row power = new Row(CELLS, 0);
        private final Row water = new Row(CELLS, 0);
        private final Row served = new Row(CELLS, 0);

        void find(Board board, Roads roads) {
            power.fill(0);
            water.fill(0);
            served.fill(0);
            for (int cell = 0; cell < CELLS; cell++) {
                give(board.kindOf(cell), roads.netOf(cell));
            }
            for (int cell = 0; cell < CELLS; cell++) {
                if (board.isZone(cell)) {
                    serve(cell, roads.netOf(cell), Math.max(board.levelOf(cell), 1));
                }
            }
        }

        private void give(int kind, int net) {
            if (net == NONE) {
                return;
            }
            if (kind == POWER) {
                power.add(net, SUPPLY_OF_WORKS);
            } else if (kind == WATER) {
                water.add(net, SUPPLY_OF_WORKS);
            }
        }

        private void serve(int cell, int net, int need) {
            if (net != NONE && power.get(net) >= need && water.get(net) >= need) {
                power.add(net, -need);
                water.add(net, -need);
                served.set(cell, 1);
            }
        }

        boolean serves(int cell) {
            return served.get(cell) == 1;
        }

        int powerOf(int net) {
            return power.get(net);
        }
    }

    /**
     * Who works where, and the traffic. A trip is what one zone for homes sends to one for trades:
     * each trip leaves one of both without workers or jobs, so there are fewer trips than cells.
     */
    private static final class Jobs {
        private final Row placedPeople = new Row(CELLS, 0);
        private final Row freePeople = new Row(CELLS, 0);
        private final Row roadTraffic = new Row(CELLS, 0);
        private final Row tripHomes = new Row(CELLS, NONE);
        private final Row tripTrades = new Row(CELLS, NONE);
        private final Row tripPeople = new Row(CELLS, 0);
        private int trips = 0;

        void find(Board board, Roads roads) {
            placedPeople.fill(0);
            roadTraffic.fill(0);
            trips = 0;
            for (int cell = 0; cell < CELLS; cell++) {
                freePeople.set(cell, board.peopleOf(cell));
            }
            for (int distance = 0; distance < roads.count(); distance++) {
                place(board, roads, distance);
            }
            for (int trip = 0; trip < trips; trip++) {
                int home = roads.roadOf(tripHomes.get(trip));
                int trade = roads.roadOf(tripTrades.get(trip));
                walk(roads, home, trade, tripPeople.get(trip));
            }
        }

        private void place(Board board, Roads roads, int distance) {
            for (int home = 0; home < CELLS; home++) {
                if (board.kindOf(home) == HOMES && freePeople.get(home) > 0) {
                    placeFrom(board, roads, home, distance);
                }
            }
        }

        private void placeFrom(Board board, Roads roads, int home, int distance) {
            for (int trade = 0; trade < CELLS; trade++) {
                if (board.kindOf(trade) == TRADES && roads.between(home, trade) == distance) {
                    take(home, trade, Math.min(freePeople.get(home), freePeople.get(trade)));
                }
            }
        }

        private void take(int home, int trade, int people) {
            if (people > 0) {
                placedPeople.add(home, people);
                placedPeople.add(trade, people);
                freePeople.add(home, -people);
                freePeople.add(trade, -people);
                tripHomes.set(trips, home);
                tripTrades.set(trips, trade);
                tripPeople.set(trips, people);
                trips++;
            }
        }

        private void walk(Roads roads, int from, int to, int people) {
            int here = from;
            roadTraffic.add(here, people);
            for (int step = 0; step < CELLS && here != to; step++) {
                here = roads.nextRoad(here, to);
                roadTraffic.add(here, people);
            }
        }

        int placedAt(int cell) {
            return placedPeople.get(cell);
        }

        int trafficOn(int road) {
            return roadTraffic.get(road);
        }

        int goingBetween(int home, int trade) {
            for (int trip = 0; trip < trips; trip++) {
                if (tripHomes.get(trip) == home && tripTrades.get(trip) == trade) {
                    return tripPeople.get(trip);
                }
            }
            return 0;
        }

        int allPlaced() {
            int sum = 0;
            for (int trip = 0; trip < trips; trip++) {
                sum += tripPeople.get(trip);
            }
            return sum;
        }
    }

    /** Cash, debt, taxes, and the sum of the months. */
    private static final class Ledger {
        private int cash = 1000;
        private int debt = 0;
        private int homesTax = 3;
        private int tradesTax = 4;
        private int earned = 0;

        int cashNow() {
            return cash;
        }

        int debtNow() {
            return debt;
        }

        int earnedNow() {
            return earned;
        }

        void spend(int amount) {
            cash -= amount;
        }

        void lend(int amount) {
            cash += amount;
            debt += amount;
        }

        int changeTax(boolean trades, int tax) {
            int before = trades ? tradesTax : homesTax;
            if (trades) {
                tradesTax = tax;
            } else {
                homesTax = tax;
            }
            return before;
        }

        /** Each worker with a job takes one job, so one number tells both. */
        void closeMonth(int placed, int upkeep) {
            int taxes = placed * homesTax + placed * tradesTax;
            int interest = (debt + 99) / 100;
            int gain = taxes - upkeep - interest;
            cash += gain;
            earned += gain;
        }
    }
}
