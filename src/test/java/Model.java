import java.util.ArrayList;
import java.util.Comparator;
import java.util.List;

/**
 * The document once more, written another way (all distances by relaxing, pairs by sorting), to
 * compare with. Everything is found anew at each question.
 */
final class Model {
    static final class Trip {
        final int distance;
        final int home;
        final int trade;
        int people;

        Trip(int distance, int home, int trade) {
            this.distance = distance;
            this.home = home;
            this.trade = trade;
        }
    }

    private static final int FAR = 1000;

    private final int[] kinds = new int[64];
    private final int[] levels = new int[64];
    private int cash = 1000;
    private int debt;
    private int earned;
    private int homesTax = 3;
    private int tradesTax = 4;

    private final int[] powerLeft = new int[64];
    private final boolean[] served = new boolean[64];
    private final int[] placed = new int[64];
    private final int[] traffic = new int[64];
    private int[][] far = new int[64][64];
    private List<Trip> trips = new ArrayList<>();

    Model() {
        find();
    }

    private static boolean areNeighbours(int one, int other) {
        return distance(one, other) == 1;
    }

    private static int distance(int one, int other) {
        return Math.abs(one / 8 - other / 8) + Math.abs(one % 8 - other % 8);
    }

    private int roadOf(int cell) {
        if (kinds[cell] == 1) {
            return cell;
        }
        for (int other = 0; other < 64; other++) {
            if (kinds[other] == 1 && areNeighbours(cell, other)) {
                return other;
            }
        }
        return -1;
    }

    private void find() {
        findDistances();
        findSupply();
        findJobs();
    }

    private void findDistances() {
        far = new int[64][64];
        List<Integer> roads = new ArrayList<>();
        for (int cell = 0; cell < 64; cell++) {
            if (kinds[cell] == 1) {
                roads.add(cell);
            }
        }
        for (int one : roads) {
            for (int other : roads) {
                far[one][other] = one == other ? 0 : areNeighbours(one, other) ? 1 : FAR;
            }
        }
        for (int by : roads) {
            for (int one : roads) {
                for (int other : roads) {
                    far[one][other] = Math.min(far[one][other], far[one][by] + far[by][other]);
                }
            }
        }
    }

    int net(int cell) {
        int road = roadOf(cell);
        if (road < 0) {
            return -1;
        }
        for (int other = 0; other < 64; other++) {
            if (kinds[other] == 1 && far[road][other] < FAR) {
                return other;
            }
        }
        return -1;
    }

    int steps(int one, int other) {
        if (net(one) < 0 || net(one) != net(other)) {
            return -1;
        }
        return far[roadOf(one)][roadOf(other)];
    }

    private void findSupply() {
        for (int cell = 0; cell < 64; cell++) {
            served[cell] = false;
            powerLeft[cell] = 0;
        }
        for (int net = 0; net < 64; net++) {
            if (kinds[net] == 1 && net(net) == net) {
                findSupplyOf(net);
            }
        }
    }

    private void findSupplyOf(int net) {
        int power = 0;
        int water = 0;
        for (int cell = 0; cell < 64; cell++) {
            if (net(cell) == net) {
                power += kinds[cell] == 5 ? 20 : 0;
                water += kinds[cell] == 6 ? 20 : 0;
            }
        }
        for (int cell = 0; cell < 64; cell++) {
            if (net(cell) == net && isZone(cell)) {
                int need = levels[cell] == 0 ? 1 : levels[cell];
                if (need <= power && need <= water) {
                    power -= need;
                    water -= need;
                    served[cell] = true;
                }
            }
        }
        powerLeft[net] = power;
    }

    private boolean isZone(int cell) {
        return kinds[cell] == 2 || kinds[cell] == 3;
    }

    private void findJobs() {
        trips = new ArrayList<>();
        for (int cell = 0; cell < 64; cell++) {
            placed[cell] = 0;
            traffic[cell] = 0;
        }
        for (int home = 0; home < 64; home++) {
            for (int trade = 0; trade < 64; trade++) {
                if (kinds[home] == 2 && kinds[trade] == 3 && steps(home, trade) >= 0) {
                    trips.add(new Trip(steps(home, trade), home, trade));
                }
            }
        }
        trips.sort(Comparator.comparingInt((Trip trip) -> trip.distance)
                .thenComparingInt(trip -> trip.home).thenComparingInt(trip -> trip.trade));
        for (Trip trip : trips) {
            int workers = 2 * levels[trip.home] - placed[trip.home];
            int jobs = 2 * levels[trip.trade] - placed[trip.trade];
            trip.people = Math.min(workers, jobs);
            placed[trip.home] += trip.people;
            placed[trip.trade] += trip.people;
            walk(roadOf(trip.home), roadOf(trip.trade), trip.people);
        }
    }

    private void walk(int here, int goal, int people) {
        traffic[here] += people;
        if (here == goal) {
            return;
        }
        for (int next = 0; next < 64; next++) {
            if (kinds[next] == 1 && areNeighbours(here, next) && far[next][goal] < far[here][goal]) {
                walk(next, goal, people);
                return;
            }
        }
    }

    int value(int cell) {
        int value = 10;
        for (int other = 0; other < 64; other++) {
            if (distance(cell, other) <= 2) {
                value += kinds[other] == 4 ? 5 : kinds[other] == 5 ? -10 : 0;
            }
        }
        if (kinds[cell] != 1 && roadOf(cell) >= 0) {
            value -= traffic[roadOf(cell)];
        }
        return value < 0 ? 0 : value;
    }

    private void month() {
        int change = 0;
        for (int cell = 0; cell < 64; cell++) {
            switch (kinds[cell]) {
                case 1: change -= 1; break;
                case 2: change += homesTax * placed[cell]; break;
                case 3: change += tradesTax * placed[cell]; break;
                case 4: change -= 2; break;
                case 5: change -= 10; break;
                case 6: change -= 10; break;
                default: break;
            }
        }
        change -= debt / 100 + (debt % 100 == 0 ? 0 : 1);
        cash += change;
        earned += change;
        int[] next = new int[64];
        for (int cell = 0; cell < 64; cell++) {
            next[cell] = isZone(cell) ? nextLevel(cell) : 0;
        }
        System.arraycopy(next, 0, levels, 0, 64);
        find();
    }

    private int nextLevel(int cell) {
        int level = levels[cell];
        int without = 2 * level - placed[cell];
        if (!served[cell]) {
            return Math.max(0, level - 1);
        }
        if (kinds[cell] == 2 && without > level) {
            return level - 1;
        }
        if (kinds[cell] == 3 && level > 0 && placed[cell] == 0) {
            return level - 1;
        }
        if (cash >= 0 && level < 3 && value(cell) >= 5 * (level + 1) && without == 0) {
            return level + 1;
        }
        return level;
    }

    private static void cell(int cell) {
        if (cell < 0 || cell > 63) {
            throw new IndexOutOfBoundsException();
        }
    }

    private static void argument(boolean good) {
        if (!good) {
            throw new IllegalArgumentException();
        }
    }

    private static void state(boolean good) {
        if (!good) {
            throw new IllegalStateException();
        }
    }

    private String textOf(int cell) {
        String[] texts = {".", "#", "H" + levels[cell], "T" + levels[cell], "park", "power", "water"};
        return texts[kinds[cell]];
    }

    /** The answer of the call with this number; a and b are its arguments as far as it has some. */
    long call(int number, int a, int b) {
        switch (number) {
            case 0: {
                cell(a);
                argument(b >= 1 && b <= 6);
                int cost = new int[] {0, 10, 20, 20, 30, 200, 150}[b];
                state(kinds[a] == 0 && cash >= cost);
                cash -= cost;
                kinds[a] = b;
                find();
                return cash;
            }
            case 1: {
                cell(a);
                state(kinds[a] != 0 && cash >= 5);
                int was = kinds[a];
                cash -= 5;
                kinds[a] = 0;
                levels[a] = 0;
                find();
                return was;
            }
            case 2: {
                argument(b >= 0 && b <= 20);
                int was = a % 2 == 0 ? homesTax : tradesTax;
                if (a % 2 == 0) {
                    homesTax = b;
                } else {
                    tradesTax = b;
                }
                return was;
            }
            case 3:
                argument(a >= 1 && a <= 1000);
                state(debt + a <= 5000);
                debt += a;
                cash += a;
                return debt;
            case 4:
                argument(a >= 1 && a <= 5000);
                state(a <= debt && a <= cash);
                debt -= a;
                cash -= a;
                return debt;
            case 5: {
                argument(a >= 1 && a <= 12);
                int before = cash;
                for (int month = 0; month < a; month++) {
                    month();
                }
                return cash - before;
            }
            case 6:
                return cash;
            case 7:
                return debt;
            case 8:
                return earned;
            default:
                return ask(number, a, b);
        }
    }

    private long ask(int number, int a, int b) {
        cell(a);
        switch (number) {
            case 9:
                return kinds[a];
            case 10:
                return levels[a];
            case 11:
                if (b < 0 || b >= textOf(a).length()) {
                    throw new IndexOutOfBoundsException();
                }
                return textOf(a).charAt(b);
            case 12:
                return net(a);
            case 13:
                cell(b);
                return steps(a, b);
            case 14:
                return served[a] ? 1 : 0;
            case 15:
                return placed[a];
            case 16:
                return traffic[a];
            case 17:
                return value(a);
            case 18:
                return net(a) < 0 ? 0 : powerLeft[net(a)];
            default:
                cell(b);
                for (Trip trip : trips) {
                    if (trip.home == a && trip.trade == b) {
                        return trip.people;
                    }
                }
                return 0;
        }
    }
}
