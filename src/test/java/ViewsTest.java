/** Promises 14 to 21: isDue, nextDue, live, olds, lines, name, isSqueezed, thrown. */
public final class ViewsTest {

    private static final int NONE = LogTurner.NONE;

    public static void main(String[] args) {
        isDueBySize();
        isDueByDays();
        isDueNotTooSoon();
        isDueWithLinesAlone();
        nextDue();
        nextDueAtItsEdge();
        liveAndOlds();
        linesAndThrown();
        name();
        Checks.end();
    }

    private static LogTurner written(int size, int weekday, int monthly, int least) {
        LogTurner x = new LogTurner();
        x.setDue(0, size, weekday, monthly, least);
        x.open(0, 0);
        x.write(0, 10);
        return x;
    }

    private static void isDueBySize() {
        Checks.due("as many lines", written(10, NONE, NONE, 0).isDue(0), true);
        Checks.due("fewer lines", written(11, NONE, NONE, 0).isDue(0), false);
        Checks.due("more lines", written(9, NONE, NONE, 0).isDue(0), true);
        Checks.due("no size", written(0, NONE, NONE, 0).isDue(0), false);
    }

    private static void isDueByDays() {
        LogTurner x = written(0, 0, NONE, 0);
        Checks.due("the day 0 is not behind itself", x.isDue(0), false);
        x.advance(6);
        Checks.due("the day 6", x.isDue(0), false);
        x.advance(1);
        Checks.due("the day 7", x.isDue(0), true);
        x.advance(1);
        Checks.due("a day that was missed", x.isDue(0), true);
        x.run();
        x.tell(0);
        x.write(0, 1);
        x.advance(5);
        Checks.due("the day 13", x.isDue(0), false);
        x.advance(1);
        Checks.due("the day 14", x.isDue(0), true);
        x.run();
        x.tell(0);
        x.write(0, 1);
        Checks.due("the day of the turn does not count", x.isDue(0), false);
        LogTurner y = written(0, NONE, 5, 0);
        y.advance(4);
        Checks.due("before the day of the month", y.isDue(0), false);
        y.advance(1);
        Checks.due("on the day of the month", y.isDue(0), true);
        y.advance(100);
        Checks.due("long after it", y.isDue(0), true);
        y.run();
        y.tell(0);
        y.write(0, 1);
        Checks.due("the day of the next month", y.nextDue(0), 125);
        y.advance(19);
        y.turn(0);
        y.tell(0);
        y.write(0, 1);
        y.advance(1);
        Checks.due("the day behind the last turn", y.isDue(0), true);
    }

    private static void isDueNotTooSoon() {
        LogTurner x = written(10, 1, NONE, 3);
        Checks.due("never turned: not too soon", x.isDue(0), true);
        x.turn(0);
        x.tell(0);
        x.write(0, 10);
        x.advance(2);
        Checks.due("2 days since", x.isDue(0), false);
        x.advance(1);
        Checks.due("3 days since", x.isDue(0), true);
        LogTurner y = written(0, 1, NONE, 3);
        y.turn(0);
        y.tell(0);
        y.write(0, 10);
        y.advance(1);
        Checks.due("the weekday comes too soon", y.isDue(0), false);
        y.advance(2);
        Checks.due("and is made up for", y.isDue(0), true);
    }

    private static void isDueWithLinesAlone() {
        LogTurner x = new LogTurner();
        x.setDue(0, 1, 1, 1, 0);
        x.advance(50);
        Checks.due("no lines", x.isDue(0), false);
        x.open(0, 0);
        x.write(0, 1);
        Checks.due("one line", x.isDue(0), true);
        x.turn(0);
        x.write(0, 1);
        Checks.due("lines of the old part do not count", x.isDue(0), false);
    }

    private static void nextDue() {
        Checks.due("today", written(10, NONE, NONE, 5).nextDue(0), 0);
        Checks.due("the weekday", written(0, 4, NONE, 0).nextDue(0), 4);
        Checks.due("the weekday 0", written(0, 0, NONE, 0).nextDue(0), 7);
        Checks.due("the day of the month", written(0, NONE, 17, 0).nextDue(0), 17);
        Checks.due("the first of both", written(0, 6, 2, 0).nextDue(0), 2);
        Checks.due("never", written(0, NONE, NONE, 0).nextDue(0), NONE);
        Checks.due("too few lines", written(11, NONE, NONE, 0).nextDue(0), NONE);
        LogTurner x = new LogTurner();
        x.setDue(0, 1, 1, 1, 0);
        Checks.due("no lines", x.nextDue(0), NONE);
        LogTurner y = written(0, 1, NONE, 30);
        y.turn(0);
        y.tell(0);
        y.write(0, 1);
        Checks.due("the end of the least age", y.nextDue(0), 30);
        Checks.due("it changes nothing", y.day(), 0);
    }

    /** The longest wait is a least age of 100 days, or 30 days: 200 days ahead are never reached. */
    private static void nextDueAtItsEdge() {
        LogTurner x = written(1, NONE, NONE, 100);
        for (int i = 0; i < 50; i++) {
            x.advance(100);
        }
        Checks.due("run()", x.run(), 1);
        x.tell(0);
        x.write(0, 1);
        Checks.due("beyond the day 5000", x.nextDue(0), 5100);
        x.setDue(0, 0, NONE, 19, 0);
        Checks.due("the day 19 of the month", x.nextDue(0), 5029);
        x.setDue(0, 0, NONE, 20, 0);
        Checks.due("the day 20, which was today", x.nextDue(0), 5030);
    }

    private static void liveAndOlds() {
        LogTurner x = new LogTurner();
        x.open(0, 4);
        x.write(0, 12);
        Checks.due("live(4)", x.live(4), 12);
        Checks.due("live(3)", x.live(3), 0);
        x.turn(4);
        Checks.due("olds(4)", x.olds(4), 1);
        Checks.due("olds(3)", x.olds(3), 0);
        Checks.due("live(4)", x.live(4), 0);
        for (int i = 0; i < 5; i++) {
            x.turn(4);
        }
        Checks.due("the held one and two more", x.olds(4), 3);
    }

    private static void linesAndThrown() {
        LogTurner x = new LogTurner();
        x.open(0, 1);
        for (int lines = 1; lines <= 5; lines++) {
            x.write(0, 100 * lines);
            x.turn(1);
            x.tell(0);
        }
        Checks.due("the oldest one first", x.lines(1, 0), 300);
        Checks.due("the latest one last", x.lines(1, 2), 500);
        Checks.due("thrown(1)", x.thrown(1), 100 + 200);
        Checks.due("thrown(0)", x.thrown(0), 0);
    }

    private static void name() {
        LogTurner x = new LogTurner();
        x.turn(0);
        x.turn(0);
        x.advance(7);
        x.turn(0);
        Checks.due("numbers: the oldest", x.name(0, 0), 3);
        Checks.due("numbers: the latest", x.name(0, 2), 1);
        x.setOld(0, 4, 0, false, true, false);
        Checks.due("dates: the day 0", x.name(0, 0), 0);
        Checks.due("dates: again on the day 0", x.name(0, 1), 1);
        Checks.due("dates: the day 7", x.name(0, 2), 7000);
        x.turn(0);
        x.turn(0);
        Checks.due("one of the day 0 is gone", x.name(0, 0), 0);
        Checks.due("the last of the day 7", x.name(0, 3), 7002);
    }
}
