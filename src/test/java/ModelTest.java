/** Long runs of mixed calls, each answer compared with that of the model. */
public final class ModelTest {
    private static final int RUNS = 600;
    private static final int CALLS = 512;
    private static final String[] NAMES = {
        "build", "tear", "setTax", "borrow", "repay", "pass", "cash", "debt", "earned", "kind", "level", "sign",
        "net", "steps", "isServed", "placed", "traffic", "value", "powerLeft", "going",
    };

    private static long seed;
    private static int highest = 0;
    private static long commuters = 0;
    private static long unserved = 0;

    public static void main(String[] args) {
        for (int run = 0; run < RUNS; run++) {
            seed = 7919L * run + 1;
            run(run);
        }
        Check.due("the highest level that was seen", highest, 3);
        Check.due("some went to work", commuters > 5000 ? 1 : 0, 1);
        Check.due("some zones were not served", unserved > 5000 ? 1 : 0, 1);
        Check.end();
    }

    /** A fixed rule, so that each run of the test makes the same calls. */
    private static int below(int bound) {
        seed = seed * 6364136223846793005L + 1442695040888963407L;
        return (int) Math.floorMod(seed >>> 33, (long) bound);
    }

    /** Every third run begins with nothing; the others with a loan, a town plan and works at its end. */
    private static void run(int run) {
        MillbrookBorough town = new MillbrookBorough();
        Model model = new Model();
        boolean planned = run % 3 != 0;
        int wide = planned ? 56 : 16 + 8 * below(7);
        int calls = planned ? plan(run, town, model) : 0;
        for (int call = calls; call < CALLS; call++) {
            step(run, town, model, wide, call < (planned ? 90 : 150), planned);
        }
    }

    /** Two rows of roads with some gaps, joined by a column that leads to the works. */
    private static int plan(int run, MillbrookBorough town, Model model) {
        int calls = 0;
        for (; calls < 5; calls++) {
            compare(run, town, model, 3, 1000, 0);
        }
        for (int tax = 0; tax < 2; tax++, calls++) {
            compare(run, town, model, 2, tax, 12 + below(9));
        }
        int column = below(8);
        int first = below(3);
        for (int cell = 0; cell < 64; cell++) {
            int row = cell / 8;
            boolean isStreet = (row == first || row == first + 2 + run % 2) && below(25) > 0;
            if (isStreet || cell % 8 == column && row >= first) {
                compare(run, town, model, 0, cell, 1);
                calls++;
            }
        }
        int beside = column == 7 ? -1 : 1;
        for (int row = 6; row < 8; row++, calls++) {
            compare(run, town, model, 0, 8 * row + column + beside, row - 1);
        }
        for (int row = 6; column > 0 && column < 7 && row < 8; row++, calls++) {
            compare(run, town, model, 0, 8 * row + column - beside, 5 + below(2));
        }
        return calls;
    }

    private static void step(int run, MillbrookBorough town, Model model, int wide, boolean early, boolean planned) {
        int dice = below(100);
        int cell = below(60) == 0 ? below(80) - 8 : below(wide);
        if (dice < 8 || early && below(2) == 0) {
            compare(run, town, model, 0, planned && below(9) > 0 ? site(model, cell) : cell, kindToBuild(planned));
        } else if (dice < 10) {
            boolean spare = planned && below(15) > 0;
            compare(run, town, model, 1, spare ? search(model, 2 + below(3), cell) : cell, 0);
        } else if (dice < 12) {
            compare(run, town, model, 2, below(2), below(10) == 0 ? below(24) - 2 : 15 + below(7));
        } else if (dice < 14) {
            compare(run, town, model, 3, below(1003), 0);
        } else if (dice < 16) {
            compare(run, town, model, 4, below(6) == 0 ? below(5010) : below(300), 0);
        } else if (dice < 28) {
            compare(run, town, model, 5, below(12) == 0 ? below(15) : 1, 0);
        } else {
            ask(run, town, model, cell);
        }
    }

    private static void ask(int run, MillbrookBorough town, Model model, int cell) {
        int number = below(8) == 0 ? 19 : 6 + below(14);
        int other = below(60) == 0 ? below(80) - 8 : below(64);
        if (number == 11) {
            compare(run, town, model, number, cell, below(7) - 1);
        } else if (number == 19 && below(20) > 0) {
            compare(run, town, model, number, search(model, 2, other), search(model, 3, cell));
        } else {
            compare(run, town, model, number, cell, other);
        }
    }

    /** A cell of this kind near the given one if there is one, so that more than empty cells are asked. */
    private static int search(Model model, int kind, int cell) {
        for (int i = 0; i < 64; i++) {
            int other = Math.floorMod(cell + i, 64);
            if (model.call(9, other, 0) == kind) {
                return other;
            }
        }
        return cell;
    }

    /** An empty cell beside a road, if there is one. */
    private static int site(Model model, int cell) {
        for (int i = 0; i < 64; i++) {
            int other = Math.floorMod(cell + i, 64);
            if (model.call(9, other, 0) == 0 && model.net(other) >= 0) {
                return other;
            }
        }
        return cell;
    }

    private static int kindToBuild(boolean planned) {
        int dice = below(100);
        if (dice < (planned ? 3 : 40)) {
            return 1;
        }
        if (dice < (planned ? 39 : 62)) {
            return 2;
        }
        if (dice < (planned ? 75 : 84)) {
            return 3;
        }
        if (dice < (planned ? 98 : 92)) {
            return 4;
        }
        return dice < 95 ? 5 : dice < 98 ? 6 : below(9) - 1;
    }

    private static void compare(int run, MillbrookBorough town, Model model, int number, int a, int b) {
        String got;
        String want;
        try {
            long answer = call(town, number, a, b);
            got = Long.toString(answer);
            watch(number, answer);
        } catch (RuntimeException e) {
            got = e.getClass().getName();
        }
        try {
            want = Long.toString(model.call(number, a, b));
        } catch (RuntimeException e) {
            want = e.getClass().getName();
        }
        Check.due("run " + run + ": " + NAMES[number] + "(" + a + ", " + b + ")", got, want);
    }

    /** Notes whether the runs come to what is to be tested. */
    private static void watch(int number, long answer) {
        if (number == 10) {
            highest = Math.max(highest, (int) answer);
        } else if (number == 19) {
            commuters += answer;
        } else if (number == 14) {
            unserved += 1 - answer;
        }
    }

    private static long call(MillbrookBorough town, int number, int a, int b) {
        switch (number) {
            case 0: return town.build(a, b);
            case 1: return town.tear(a);
            case 2: return town.setTax(a % 2 != 0, b);
            case 3: return town.borrow(a);
            case 4: return town.repay(a);
            case 5: return town.pass(a);
            case 6: return town.cash();
            case 7: return town.debt();
            case 8: return town.earned();
            case 9: return town.kind(a);
            case 10: return town.level(a);
            case 11: return town.sign(a, b);
            case 12: return town.net(a);
            case 13: return town.steps(a, b);
            case 14: return town.isServed(a) ? 1 : 0;
            case 15: return town.placed(a);
            case 16: return town.traffic(a);
            case 17: return town.value(a);
            case 18: return town.powerLeft(a);
            default: return town.going(a, b);
        }
    }
}
