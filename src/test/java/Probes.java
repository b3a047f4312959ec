/**
 * Ways to go on with an object, each told as the text of all its answers. What no question shows at
 * once shows here: the rules, which file belongs to which one, the last turns, and who is told.
 */
final class Probes {

    interface Probe {
        String answers(LogTurner turner);
    }

    private interface Call {
        Object answer();
    }

    static final Probe[] ALL = {
        Checks::shown, Probes::lastTurnsAndRules, Probes::holdersGoOn, Probes::daysGoOn,
        x -> dueBy(x, 0), x -> dueBy(x, 1), x -> dueBy(x, 2),
        x -> oldBy(x, 0), x -> oldBy(x, 1), x -> oldBy(x, 2),
    };

    private Probes() {
    }

    /** A call may rightly be refused here, by a holder without a part or on the last day. */
    private static String told(Call call) {
        try {
            return call.answer() + " ";
        } catch (IllegalStateException e) {
            return "refused ";
        }
    }

    private static String lastTurnsAndRules(LogTurner x) {
        StringBuilder text = new StringBuilder();
        for (int f = 0; f < 5; f++) {
            text.append(x.lose(f)).append(' ').append(x.give(f, 0)).append('\n');
        }
        return text.toString();
    }

    private static String holdersGoOn(LogTurner x) {
        StringBuilder text = new StringBuilder();
        for (int h = 0; h < 4; h++) {
            int holder = h;
            text.append(told(() -> x.write(holder, 1))).append(told(() -> x.tell(holder)));
            text.append(told(() -> x.write(holder, 1))).append(x.shut(h)).append('\n');
        }
        return text + Checks.shown(x);
    }

    private static String daysGoOn(LogTurner x) {
        StringBuilder text = new StringBuilder();
        for (int days = 1; days < 100; days += 14) {
            int step = days;
            text.append(told(() -> x.advance(step))).append(x.run()).append('\n');
        }
        return text + Checks.shown(x);
    }

    /** With few lines the days show, with many the size, and the least age with both. */
    private static String dueBy(LogTurner x, int rule) {
        StringBuilder text = new StringBuilder();
        x.give(0, rule);
        x.turn(0);
        x.open(0, 0);
        for (int lines : new int[] {1, 9, 90, 399, 1, 500, 1000}) {
            text.append(x.write(0, lines)).append(": ").append(x.nextDue(0)).append('\n');
        }
        return text.toString();
    }

    private static String oldBy(LogTurner x, int rule) {
        StringBuilder text = new StringBuilder();
        x.give(0, rule);
        x.setDue(rule, 1, LogTurner.NONE, LogTurner.NONE, 0);
        for (int i = 0; i < 6; i++) {
            text.append(told(() -> x.advance(3))).append(x.turn(0)).append(' ').append(x.olds(0)).append('\n');
        }
        x.open(0, 0);
        x.turn(0);
        x.open(1, 0);
        x.write(1, 1);
        text.append(x.run()).append(' ').append(x.holds(0)).append(' ').append(x.holds(1)).append('\n');
        return text + Checks.shown(x);
    }
}
