/** Counts the calls whose answer is not the one that is due, and tells them. */
final class Checks {

    interface Maker {
        LogTurner make();
    }

    interface Call {
        void on(LogTurner turner);
    }

    static final Class<IndexOutOfBoundsException> INDEX = IndexOutOfBoundsException.class;
    static final Class<IllegalArgumentException> ARGUMENT = IllegalArgumentException.class;
    static final Class<IllegalStateException> STATE = IllegalStateException.class;

    private static int made = 0;
    private static int wrong = 0;

    private Checks() {
    }

    static void due(String what, long got, long want) {
        made++;
        if (got != want) {
            tell(what + " answered " + got + ", due is " + want);
        }
    }

    static void due(String what, boolean got, boolean want) {
        made++;
        if (got != want) {
            tell(what + " answered " + got + ", due is " + want);
        }
    }

    static void due(String what, String got, String want) {
        made++;
        if (!got.equals(want)) {
            tell(what + " answered\n" + got + "\ndue is\n" + want);
        }
    }

    /**
     * The call must throw just this and change nothing: an object on which it was made answers as one
     * on which it was not, however both are used further.
     */
    static void dueThrows(String what, Class<? extends RuntimeException> want, Maker maker, Call call) {
        for (Probes.Probe probe : Probes.ALL) {
            String got = probe.answers(refused(what, want, maker, call));
            due("what is answered after " + what, got, probe.answers(maker.make()));
        }
    }

    private static LogTurner refused(String what, Class<? extends RuntimeException> want, Maker maker, Call call) {
        made++;
        LogTurner turner = maker.make();
        try {
            call.on(turner);
            tell(what + " threw nothing, due is " + want.getName());
        } catch (RuntimeException e) {
            if (e.getClass() != want || !isThrownByTheClass(e)) {
                tell(what + " threw " + e + ", due is " + want.getName() + ", thrown by the class itself");
            }
        }
        return turner;
    }

    /** A list throws exceptions of these classes too, and none of those may reach a caller. */
    static boolean isThrownByTheClass(RuntimeException e) {
        StackTraceElement[] trace = e.getStackTrace();
        if (trace.length == 0) {
            return false;
        }
        String thrower = trace[0].getClassName();
        return thrower.equals("LogTurner") || thrower.startsWith("LogTurner$");
    }

    /** All that the object's own questions answer. */
    static String shown(LogTurner turner) {
        StringBuilder text = new StringBuilder();
        text.append("day ").append(turner.day()).append('\n');
        for (int f = 0; f < 5; f++) {
            text.append("file ").append(f).append(": due ").append(turner.isDue(f));
            text.append(", next ").append(turner.nextDue(f)).append(", live ").append(turner.live(f));
            text.append(", thrown ").append(turner.thrown(f)).append(", old");
            for (int k = 0; k < turner.olds(f); k++) {
                text.append(' ').append(turner.lines(f, k)).append('/').append(turner.name(f, k));
                text.append('/').append(turner.isSqueezed(f, k));
            }
            text.append('\n');
        }
        for (int h = 0; h < 4; h++) {
            text.append("holder ").append(h).append(": ").append(turner.holds(h)).append('\n');
        }
        return text.toString();
    }

    static void tell(String text) {
        wrong++;
        System.out.println(text);
    }

    static void end() {
        System.out.println(made + " checks, " + wrong + " wrong");
        if (wrong != 0 || made == 0) {
            System.exit(1);
        }
    }
}
