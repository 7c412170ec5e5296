import java.util.ArrayList;
import java.util.List;
import java.util.function.Consumer;
import java.util.function.Supplier;

/** Two towns made alike: one of them refuses a call, and must answer like the other all the same. */
final class Twins {
    private static final int PARTS = 6;

    private Twins() {
    }

    /** All that can be asked is more than 512 calls, so each part of it is asked of a pair of its own. */
    static void dueRefusal(String what, Class<?> want, Supplier<MillbrookBorough> maker,
            Consumer<MillbrookBorough> call) {
        for (int part = 0; part < PARTS; part++) {
            MillbrookBorough plain = maker.get();
            MillbrookBorough tried = maker.get();
            Check.dueThrow(what, want, () -> call.accept(tried));
            dueAlike("the town behind " + what, answers(tried, part), answers(plain, part));
        }
    }

    private static void dueAlike(String what, List<Long> got, List<Long> want) {
        for (int number = 0; number < want.size(); number++) {
            Check.due(what + ", answer " + number, got.get(number), want.get(number));
        }
    }

    private static List<Long> answers(MillbrookBorough town, int part) {
        List<Long> answers = new ArrayList<>();
        for (int cell = 0; cell < 64; cell++) {
            addAnswers(answers, town, part, cell);
        }
        if (part == PARTS - 1) {
            addFuture(answers, town);
        }
        return answers;
    }

    private static void addAnswers(List<Long> answers, MillbrookBorough town, int part, int cell) {
        switch (part) {
            case 0:
                answers.add((long) town.kind(cell));
                answers.add((long) town.level(cell));
                answers.add((long) town.sign(cell, 0));
                break;
            case 1:
                answers.add((long) town.net(cell));
                answers.add(town.isServed(cell) ? 1L : 0L);
                answers.add((long) town.placed(cell));
                break;
            case 2:
                answers.add((long) town.traffic(cell));
                answers.add((long) town.value(cell));
                answers.add((long) town.powerLeft(cell));
                break;
            case 3:
                answers.add((long) town.steps(cell, (cell + 4) % 64));
                answers.add((long) town.steps(63 - cell, cell));
                answers.add((long) town.going(cell, (cell + 4) % 64));
                break;
            case 4:
                answers.add((long) town.going(0, cell));
                answers.add((long) town.going(cell, 4));
                break;
            default:
                break;
        }
    }

    /** The money, the taxes, and what the next months make of the town. */
    private static void addFuture(List<Long> answers, MillbrookBorough town) {
        answers.add((long) town.cash());
        answers.add((long) town.debt());
        answers.add((long) town.earned());
        answers.add((long) town.pass(2));
        answers.add((long) town.setTax(false, 0));
        answers.add((long) town.setTax(true, 0));
        answers.add((long) town.pass(12));
        answers.add((long) town.cash());
        answers.add((long) town.earned());
        for (int cell = 0; cell < 64; cell++) {
            answers.add((long) town.level(cell));
        }
    }
}
