/**
 * "Terms", up to when a file is due: a test of its own for each sentence that names a boundary case,
 * with the value at the edge and the ones on both sides of it.
 */
public final class TermsDueTest {

    private static final int NONE = LogTurner.NONE;
    private static final int[] LAST_TURNS = {0, 1, 6, 7, 8, 28, 29, 30, 31, 59, 60};

    public static void main(String[] args) {
        daysFromZero();
        weekdayModuloSeven();
        dayOfTheMonthModuloThirty();
        filesAtFirstOfTheRuleZero();
        sizeZeroForNone();
        weekdayNone();
        monthlyNone();
        lastTurnOfNoTurn();
        lastTurnOnTheDayZero();
        lastTurnIsTheLatestOne();
        dueHasLines();
        dueNotBeforeTheLeastAge();
        dueAtOnceWithoutLeastAge();
        dueIfNeverTurnedWhateverTheLeastAge();
        dueNotBeforeTheLeastAgeByDaysEither();
        dueByAsManyLinesOrMore();
        dueByWeekdayBehindTheLastTurn();
        dueByDayOfTheMonthBehindTheLastTurn();
        dueByWeekdayUpToThisDay();
        dueByDayOfTheMonthUpToThisDay();
        dueByAtLeastOneOfThese();
        Checks.end();
    }

    /** The file 0 belongs to a rule with these terms, and the holder 0 holds it open. */
    private static LogTurner with(int size, int weekday, int monthly, int least) {
        LogTurner x = new LogTurner();
        x.setDue(0, size, weekday, monthly, least);
        x.open(0, 0);
        return x;
    }

    /** Not due on the days before the due one, due from it on; nextDue tells the same. */
    private static void dueJustFrom(String what, LogTurner x, int due) {
        Checks.due(what + ": nextDue", x.nextDue(0), due);
        Checks.due(what + ": today", x.isDue(0), false);
        Steps.pass(x, due - 1 - x.day());
        Checks.due(what + ": the day before", x.isDue(0), false);
        Checks.due(what + ": nextDue of the day before", x.nextDue(0), due);
        x.advance(1);
        Checks.due(what + ": the day", x.isDue(0), true);
        Checks.due(what + ": nextDue of the day", x.nextDue(0), due);
        x.advance(1);
        Checks.due(what + ": the day after", x.isDue(0), true);
        Checks.due(what + ": nextDue of the day after", x.nextDue(0), due + 1);
    }

    /** "Days are numbered from 0" */
    private static void daysFromZero() {
        LogTurner x = new LogTurner();
        x.setOld(0, 3, 0, false, true, false);
        Checks.due("the first day", x.day(), 0);
        x.turn(0);
        Checks.due("a part of the first day", x.name(0, 0), 0);
        x.advance(1);
        Checks.due("the second day", x.day(), 1);
        x.turn(0);
        Checks.due("a part of the second day", x.name(0, 1), 1000);
    }

    /** "the weekday is the day modulo 7" */
    private static void weekdayModuloSeven() {
        for (int weekday = 0; weekday < 7; weekday++) {
            for (int last : LAST_TURNS) {
                int due = last + 1;
                while (due % 7 != weekday) {
                    due++;
                }
                LogTurner x = with(0, weekday, NONE, 0);
                Steps.pass(x, last);
                Steps.turnAndWrite(x, 0, 0, 1);
                dueJustFrom("the weekday " + weekday + " after a turn on the day " + last, x, due);
            }
        }
    }

    /** "the day of the month the day modulo 30" */
    private static void dayOfTheMonthModuloThirty() {
        for (int monthly = 0; monthly < 30; monthly++) {
            for (int last : LAST_TURNS) {
                int due = last + 1;
                while (due % 30 != monthly) {
                    due++;
                }
                LogTurner x = with(0, NONE, monthly, 0);
                Steps.pass(x, last);
                Steps.turnAndWrite(x, 0, 0, 1);
                dueJustFrom("the day " + monthly + " of the month after a turn on the day " + last, x, due);
            }
        }
    }

    /** "Each file belongs to a rule, at first to the rule 0." */
    private static void filesAtFirstOfTheRuleZero() {
        for (int rule = 0; rule < 3; rule++) {
            LogTurner x = new LogTurner();
            x.setDue(rule, 1, NONE, NONE, 0);
            for (int f = 0; f < 5; f++) {
                x.open(0, f);
                x.write(0, 1);
                Checks.due("due by the rule " + rule + ", the file " + f, x.isDue(f), rule == 0);
            }
            Checks.due("turned by the rule " + rule, x.run(), rule == 0 ? 31 : 0);
        }
    }

    /** "a size (0 for none)" */
    private static void sizeZeroForNone() {
        LogTurner x = with(0, NONE, NONE, 0);
        Checks.due("no size, no lines", x.isDue(0), false);
        x.write(0, 1);
        Checks.due("no size, 1 line", x.isDue(0), false);
        Steps.write(x, 0, 10000);
        Checks.due("no size, more lines than any size", x.isDue(0), false);
        Checks.due("no size: nextDue", x.nextDue(0), NONE);
        Checks.due("no size: run()", x.run(), 0);
        x.setDue(0, 0, 3, NONE, 0);
        dueJustFrom("no size, but a weekday", x, 3);
        LogTurner y = with(1, NONE, NONE, 0);
        Checks.due("the size 1, no lines", y.isDue(0), false);
        y.write(0, 1);
        Checks.due("the size 1, 1 line", y.isDue(0), true);
    }

    /** "a weekday (0 to 6, or NONE)" */
    private static void weekdayNone() {
        LogTurner x = with(0, NONE, NONE, 0);
        x.write(0, 1);
        for (int day = 0; day < 15; day++) {
            Checks.due("no weekday on the day " + day, x.isDue(0), false);
            Checks.due("no weekday: nextDue on the day " + day, x.nextDue(0), NONE);
            x.advance(1);
        }
        LogTurner y = with(0, NONE, 9, 0);
        y.write(0, 1);
        dueJustFrom("no weekday, but a day of the month", y, 9);
    }

    /** "a day of the month (0 to 29, or NONE)" */
    private static void monthlyNone() {
        LogTurner x = with(0, NONE, NONE, 0);
        x.write(0, 1);
        for (int day = 0; day < 62; day++) {
            Checks.due("no day of the month on the day " + day, x.isDue(0), false);
            Checks.due("no day of the month: nextDue on the day " + day, x.nextDue(0), NONE);
            x.advance(1);
        }
        LogTurner y = with(0, 2, NONE, 0);
        y.advance(27);
        Steps.turnAndWrite(y, 0, 0, 1);
        dueJustFrom("no day of the month, but a weekday", y, 30);
    }

    /** "0, if it never was (so that the day 0 itself is not behind it)" */
    private static void lastTurnOfNoTurn() {
        Checks.due("the last turn of a file never turned", Steps.onDay(40).lose(3), 0);
        LogTurner weekly = with(0, 0, NONE, 0);
        weekly.write(0, 1);
        dueJustFrom("the weekday of the day 0", weekly, 7);
        LogTurner monthly = with(0, NONE, 0, 0);
        monthly.write(0, 1);
        dueJustFrom("the day of the month of the day 0", monthly, 30);
        LogTurner next = with(0, 1, NONE, 0);
        next.write(0, 1);
        dueJustFrom("the weekday of the day 1", next, 1);
        LogTurner nextMonthly = with(0, NONE, 1, 0);
        nextMonthly.write(0, 1);
        dueJustFrom("the day of the month of the day 1", nextMonthly, 1);
        LogTurner late = with(0, 0, NONE, 0);
        late.advance(7);
        late.write(0, 1);
        Checks.due("lines of a day behind", late.isDue(0), true);
    }

    /** "The last turn of a file is the day on which it was turned last": on the day 0 too. */
    private static void lastTurnOnTheDayZero() {
        LogTurner never = with(1, NONE, NONE, 3);
        never.write(0, 1);
        Checks.due("never turned", never.isDue(0), true);
        LogTurner turned = with(1, NONE, NONE, 3);
        Steps.turnAndWrite(turned, 0, 0, 1);
        dueJustFrom("turned on the day 0", turned, 3);
        LogTurner run = with(1, NONE, NONE, 3);
        run.write(0, 1);
        run.run();
        run.tell(0);
        run.write(0, 1);
        dueJustFrom("turned by a run on the day 0", run, 3);
    }

    /** "the day on which it was turned last" */
    private static void lastTurnIsTheLatestOne() {
        LogTurner x = with(1, NONE, NONE, 0);
        x.advance(2);
        x.turn(0);
        x.advance(3);
        x.write(0, 1);
        Checks.due("nothing but an old part has lines", x.run(), 0);
        x.open(0, 0);
        x.write(0, 1);
        Checks.due("run()", x.run(), 1);
        x.advance(4);
        Checks.due("a run that turns nothing", x.run(), 0);
        Checks.due("the last turn", x.lose(0), 5);
        Checks.due("the last turn of another file", x.lose(1), 0);
    }

    /** "A file is due on a day if its live part has lines" */
    private static void dueHasLines() {
        LogTurner x = with(1, 1, 1, 0);
        x.advance(50);
        Checks.due("no lines", x.isDue(0), false);
        Checks.due("no lines: nextDue", x.nextDue(0), NONE);
        Checks.due("no lines: run()", x.run(), 0);
        x.write(0, 1);
        Checks.due("1 line", x.isDue(0), true);
        Checks.due("1 line: nextDue", x.nextDue(0), 50);
        x.turn(0);
        x.write(0, 1);
        x.advance(50);
        Checks.due("lines of the old part alone", x.isDue(0), false);
        Checks.due("lines of the old part alone: nextDue", x.nextDue(0), NONE);
    }

    /** "no fewer days than the least age have passed since its last turn" */
    private static void dueNotBeforeTheLeastAge() {
        for (int least : new int[] {1, 2, 50, 99, 100}) {
            for (int last : new int[] {0, 1, 50, 4900}) {
                LogTurner x = with(1, NONE, NONE, least);
                Steps.pass(x, last);
                Steps.turnAndWrite(x, 0, 0, 1);
                String what = "the least age " + least + " since the day " + last;
                if (last + least < 5000) {
                    dueJustFrom(what, x, last + least);
                } else {
                    Checks.due(what + ": nextDue", x.nextDue(0), last + least);
                    Steps.pass(x, least - 1);
                    Checks.due(what + ": the day before", x.isDue(0), false);
                    x.advance(1);
                    Checks.due(what + ": the last day there is", x.isDue(0), true);
                }
            }
        }
    }

    /** "no fewer days than the least age": none at all, if it is 0. */
    private static void dueAtOnceWithoutLeastAge() {
        LogTurner x = with(1, NONE, NONE, 0);
        x.advance(9);
        Steps.turnAndWrite(x, 0, 0, 1);
        Checks.due("due on the day of its turn", x.isDue(0), true);
        Checks.due("nextDue on the day of its turn", x.nextDue(0), 9);
        Checks.due("turned again", x.run(), 1);
        x.setDue(0, 1, NONE, NONE, 1);
        x.tell(0);
        x.write(0, 1);
        dueJustFrom("the least age 1", x, 10);
    }

    /** "(or it was never turned)" */
    private static void dueIfNeverTurnedWhateverTheLeastAge() {
        LogTurner x = with(1, NONE, NONE, 100);
        x.write(0, 1);
        Checks.due("on the day 0", x.isDue(0), true);
        Checks.due("nextDue on the day 0", x.nextDue(0), 0);
        x.advance(1);
        Checks.due("on the day 1", x.isDue(0), true);
        x.advance(98);
        Checks.due("on the day 99", x.isDue(0), true);
        Checks.due("run()", x.run(), 1);
        LogTurner y = with(0, 2, NONE, 100);
        y.write(0, 1);
        dueJustFrom("by the weekday", y, 2);
        LogTurner z = with(0, NONE, 4, 100);
        z.turn(1);
        z.write(0, 1);
        dueJustFrom("by the day of the month, though another file was turned", z, 4);
    }

    /** "no fewer days than the least age .. and at least one of these": what is too soon is made up for. */
    private static void dueNotBeforeTheLeastAgeByDaysEither() {
        for (int least = 1; least <= 20; least++) {
            LogTurner weekly = with(0, 4, NONE, least);
            Steps.turnAndWrite(weekly, 0, 0, 1);
            dueJustFrom("the weekday 4, not before " + least, weekly, Math.max(4, least));
            LogTurner monthly = with(0, NONE, 13, least);
            Steps.turnAndWrite(monthly, 0, 0, 1);
            dueJustFrom("the day 13 of the month, not before " + least, monthly, Math.max(13, least));
        }
    }

    /** "the rule has a size, and the live part has as many lines or more" */
    private static void dueByAsManyLinesOrMore() {
        for (int size : new int[] {1, 2, 3, 500, 999, 1000, 1001, 9999, 10000}) {
            LogTurner x = with(size, NONE, NONE, 0);
            Steps.write(x, 0, size - 1);
            Checks.due("one line less than " + size, x.isDue(0), false);
            Checks.due("one line less than " + size + ": nextDue", x.nextDue(0), NONE);
            x.write(0, 1);
            Checks.due("as many lines as " + size, x.isDue(0), true);
            Checks.due("as many lines as " + size + ": nextDue", x.nextDue(0), 0);
            x.write(0, 1);
            Checks.due("one line more than " + size, x.isDue(0), true);
            Checks.due("one line more than " + size + ": nextDue", x.nextDue(0), 0);
        }
    }

    /** "some day behind the last turn .. had the weekday of the rule": not the day of the turn itself. */
    private static void dueByWeekdayBehindTheLastTurn() {
        for (int last = 0; last < 15; last++) {
            LogTurner on = with(0, last % 7, NONE, 0);
            Steps.pass(on, last);
            Steps.turnAndWrite(on, 0, 0, 1);
            dueJustFrom("the weekday of the turn on the day " + last, on, last + 7);
            LogTurner behind = with(0, (last + 1) % 7, NONE, 0);
            Steps.pass(behind, last);
            Steps.turnAndWrite(behind, 0, 0, 1);
            dueJustFrom("the weekday behind the turn on the day " + last, behind, last + 1);
        }
    }

    /** "some such day was the day of the month of the rule": not the day of the turn itself. */
    private static void dueByDayOfTheMonthBehindTheLastTurn() {
        for (int last = 0; last < 62; last++) {
            LogTurner on = with(0, NONE, last % 30, 0);
            Steps.pass(on, last);
            Steps.turnAndWrite(on, 0, 0, 1);
            dueJustFrom("the day of the month of the turn on the day " + last, on, last + 30);
            LogTurner behind = with(0, NONE, (last + 1) % 30, 0);
            Steps.pass(behind, last);
            Steps.turnAndWrite(behind, 0, 0, 1);
            dueJustFrom("the day of the month behind the turn on the day " + last, behind, last + 1);
        }
    }

    /** "some day behind the last turn, up to this day": this day itself counts, the next one does not. */
    private static void dueByWeekdayUpToThisDay() {
        for (int today = 1; today < 15; today++) {
            for (int weekday = 0; weekday < 7; weekday++) {
                LogTurner x = with(0, weekday, NONE, 0);
                Steps.pass(x, today - 1);
                Steps.turnAndWrite(x, 0, 0, 1);
                x.advance(1);
                Checks.due("the weekday " + weekday + " on the day " + today, x.isDue(0), today % 7 == weekday);
                Checks.due("turned for the weekday " + weekday, x.run(), today % 7 == weekday ? 1 : 0);
            }
        }
        missedDays(with(0, 3, NONE, 0), 3);
    }

    private static void dueByDayOfTheMonthUpToThisDay() {
        for (int today = 1; today < 62; today++) {
            for (int monthly = 0; monthly < 30; monthly++) {
                LogTurner x = with(0, NONE, monthly, 0);
                Steps.pass(x, today - 1);
                Steps.turnAndWrite(x, 0, 0, 1);
                x.advance(1);
                Checks.due("the day " + monthly + " of the month on the day " + today, x.isDue(0),
                        today % 30 == monthly);
            }
        }
        missedDays(with(0, NONE, 3, 0), 3);
    }

    /** A day that was missed counts for ever, also when lines come only later. */
    private static void missedDays(LogTurner x, int day) {
        x.advance(day + 1);
        Checks.due("missed, no lines", x.isDue(0), false);
        x.write(0, 1);
        Checks.due("missed yesterday", x.isDue(0), true);
        for (int i = 0; i < 49; i++) {
            x.advance(100);
            Checks.due("missed long ago", x.isDue(0), true);
            Checks.due("missed long ago: nextDue", x.nextDue(0), x.day());
        }
        x.advance(5000 - x.day());
        Checks.due("missed, on the last day", x.isDue(0), true);
        Checks.due("missed, on the last day: nextDue", x.nextDue(0), 5000);
    }

    /** "and at least one of these holds" */
    private static void dueByAtLeastOneOfThese() {
        for (int these = 0; these < 8; these++) {
            int size = (these & 1) != 0 ? 5 : 6;
            int weekday = (these & 2) != 0 ? 40 % 7 : 41 % 7;
            int monthly = (these & 4) != 0 ? 39 % 30 : 38 % 30;
            LogTurner x = with(size, weekday, monthly, 2);
            Steps.pass(x, 38);
            Steps.turnAndWrite(x, 0, 0, 5);
            x.advance(2);
            Checks.due("these of the three: " + these, x.isDue(0), these != 0);
            Checks.due("these of the three: " + these + ", nextDue", x.nextDue(0), these != 0 ? 40 : 41);
            x.setDue(0, size, weekday, monthly, 3);
            Checks.due("these of the three too soon: " + these, x.isDue(0), false);
            Checks.due("these of the three too soon: " + these + ", nextDue", x.nextDue(0), 41);
        }
    }
}
