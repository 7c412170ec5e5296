/** What the tests share: each wrong answer is printed, and end() fails the run if there was one. */
final class Check {
    static final Class<?> INDEX = IndexOutOfBoundsException.class;
    static final Class<?> ARGUMENT = IllegalArgumentException.class;
    static final Class<?> STATE = IllegalStateException.class;

    private static int wrong = 0;
    private static int made = 0;
    private static String subject = "";

    private Check() {
    }

    /** What the next checks are about; it is printed in front of each wrong answer. */
    static void about(String text) {
        subject = text + ": ";
    }

    static int count() {
        return made;
    }

    static void fail(String text) {
        wrong++;
        System.out.println(subject + text);
    }

    static void due(String what, long got, long want) {
        made++;
        if (got != want) {
            fail(what + " answered " + got + ", due is " + want);
        }
    }

    static void due(String what, boolean got, boolean want) {
        due(what, got ? 1 : 0, want ? 1 : 0);
    }

    static void due(String what, String got, String want) {
        made++;
        if (!got.equals(want)) {
            fail(what + " answered " + got + ", due is " + want);
        }
    }

    static void dueThrow(String what, Class<?> want, Runnable call) {
        String got = "nothing";
        try {
            call.run();
        } catch (RuntimeException e) {
            got = e.getClass().getName();
        }
        due(what + " throws", got, want.getName());
    }

    /** A call that throws, on a town that must be the same behind it. */
    static void dueRefusal(String what, Class<?> want, MillbrookBorough town, Runnable call) {
        String before = stateOf(town);
        dueThrow(what, want, call);
        due("the town behind " + what, stateOf(town), before);
    }

    /** Some of the state alone, so that a town stays below its 512 calls. */
    private static String stateOf(MillbrookBorough town) {
        StringBuilder text = new StringBuilder();
        text.append(town.cash()).append(' ').append(town.debt()).append(' ').append(town.earned());
        for (int cell = 0; cell < 16; cell++) {
            text.append(' ').append(town.kind(cell)).append('/').append(town.level(cell));
        }
        int homes = town.setTax(false, 0);
        int trades = town.setTax(true, 0);
        town.setTax(false, homes);
        town.setTax(true, trades);
        return text.append(' ').append(homes).append(' ').append(trades).toString();
    }

    static void end() {
        System.out.println(wrong == 0 ? "all answers are as due" : wrong + " wrong");
        if (wrong != 0) {
            System.exit(1);
        }
    }
}
