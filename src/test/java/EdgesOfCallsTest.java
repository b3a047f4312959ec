/**
 * Promises 5 to 22: a test of its own for each argument's range, each refusal and each answer that
 * names a boundary case, with the value at the edge, the one beside it and the one beyond it.
 */
public final class EdgesOfCallsTest {

    private static final int NONE = LogTurner.NONE;
    private static final int MIN = Integer.MIN_VALUE;
    private static final int MAX = Integer.MAX_VALUE;
    private static final int[] NO_HOLDERS = {-1, 4, -2, 5, MIN, MAX};
    private static final int[] NO_FILES = {-1, 5, -2, 6, MIN, MAX};

    public static void main(String[] args) {
        openOfEachByEach();
        openLetsGoWhatItHeldBefore();
        openRefuses();
        shutOfEach();
        shutRefuses();
        tellOfEach();
        tellRefuses();
        writeByEach();
        writeLines();
        writeRefusesHolders();
        writeRefusesLines();
        writeRefusesWhoHoldsNothing();
        advanceDays();
        advanceMakesNoRun();
        advanceUpToTheLastDay();
        advanceRefusesDays();
        advanceRefusesTheLastDayPassed();
        advanceRefusesDaysFirst();
        runReturnsTheBits();
        turnOfEach();
        turnWhetherOrNotDue();
        turnReturnsHowManyWereThrownAway();
        turnTellsNobody();
        turnRefuses();
        loseReturnsTheLastTurnBefore();
        loseCountsAsTurnedToday();
        loseTurnsNothing();
        loseRefuses();
        dayIsAnswered();
        isDueOfEach();
        isDueRefuses();
        nextDueTodayOrLater();
        nextDueBeyondTheLastDay();
        nextDueOfEach();
        nextDueRefuses();
        liveOldsAndThrownOfEach();
        liveOldsAndThrownRefuse();
        oldPartsFromZeroTheOldestFirst();
        oldPartsRefuse();
        thrownCountsLines();
        holdsOfEach();
        holdsCountsTheOldPartsThatAreThere();
        holdsRefuses();
        Checks.end();
    }

    /** The holder 1 holds an old part, 2 a live one, 0 and 3 nothing; the file 1 has 3 old parts. */
    private static LogTurner used() {
        LogTurner x = new LogTurner();
        x.setDue(0, 20, 3, 17, 2);
        x.setOld(0, 3, 9, true, true, true);
        x.open(1, 1);
        x.write(1, 3);
        x.turn(1);
        x.advance(2);
        x.turn(1);
        x.turn(1);
        x.open(2, 2);
        x.write(2, 7);
        return x;
    }

    private static LogTurner usedUpTo(int day) {
        LogTurner x = used();
        Steps.pass(x, day - x.day());
        return x;
    }

    private static void refuses(String what, Class<? extends RuntimeException> want, Checks.Call call) {
        Checks.dueThrows(what, want, EdgesOfCallsTest::used, call);
    }

    // ---- promise 5

    /** "holder: 0 to 3", "file: 0 to 4" */
    private static void openOfEachByEach() {
        for (int holder = 0; holder < 4; holder++) {
            for (int file = 0; file < 5; file++) {
                LogTurner x = new LogTurner();
                x.open(holder, file);
                for (int h = 0; h < 4; h++) {
                    Checks.due("open(" + holder + ", " + file + "), holds(" + h + ")", x.holds(h),
                            h == holder ? 100 * file : NONE);
                }
                x.write(holder, 1);
                Checks.due("live(" + file + ")", x.live(file), 1);
            }
        }
    }

    /** "what it held before it holds no more": neither a live part nor an old one, of the same file or not. */
    private static void openLetsGoWhatItHeldBefore() {
        for (int next = 0; next < 2; next++) {
            LogTurner old = new LogTurner();
            old.setOld(0, 0, 0, false, false, false);
            old.open(0, 0);
            Checks.due("held", old.turn(0), 0);
            old.open(0, next);
            Checks.due("an old part, held no more", old.turn(0), next == 0 ? 1 : 2);
            Checks.due("the one that is held now", old.holds(0), next == 0 ? 1 : 100);
        }
        LogTurner live = new LogTurner();
        live.setOld(0, 0, 0, false, false, false);
        live.open(0, 0);
        live.open(0, 1);
        Checks.due("a live part, held no more", live.turn(0), 1);
    }

    private static void openRefuses() {
        for (int holder : NO_HOLDERS) {
            refuses("open by " + holder, Checks.INDEX, x -> x.open(holder, 0));
        }
        for (int file : NO_FILES) {
            refuses("open of " + file + " by who holds nothing", Checks.INDEX, x -> x.open(0, file));
            refuses("open of " + file + " by who holds an old part", Checks.INDEX, x -> x.open(1, file));
            refuses("open of " + file + " by who holds a live part", Checks.INDEX, x -> x.open(2, file));
        }
        refuses("open by neither", Checks.INDEX, x -> x.open(4, 5));
    }

    // ---- promise 6

    /** "Returns whether it held something." */
    private static void shutOfEach() {
        for (int holder = 0; holder < 4; holder++) {
            LogTurner x = new LogTurner();
            Checks.due("nothing was held by " + holder, x.shut(holder), false);
            for (int h = 0; h < 4; h++) {
                x.open(h, 1);
            }
            Checks.due("a live part was held by " + holder, x.shut(holder), true);
            for (int h = 0; h < 4; h++) {
                Checks.due("shut(" + holder + "), holds(" + h + ")", x.holds(h), h == holder ? NONE : 100);
            }
            Checks.due("nothing was held any more by " + holder, x.shut(holder), false);
            x.open(holder, 2);
            x.turn(2);
            Checks.due("an old part was held by " + holder, x.shut(holder), true);
            Checks.due("holds(" + holder + ")", x.holds(holder), NONE);
            Checks.due("once more", x.shut(holder), false);
        }
    }

    private static void shutRefuses() {
        for (int holder : NO_HOLDERS) {
            refuses("shut by " + holder, Checks.INDEX, x -> x.shut(holder));
        }
    }

    // ---- promise 7

    /** "Returns whether it held an old part." */
    private static void tellOfEach() {
        for (int holder = 0; holder < 4; holder++) {
            LogTurner x = new LogTurner();
            for (int h = 0; h < 4; h++) {
                x.open(h, 3);
            }
            Checks.due("a live part was held by " + holder, x.tell(holder), false);
            x.turn(3);
            Checks.due("an old part was held by " + holder, x.tell(holder), true);
            for (int h = 0; h < 4; h++) {
                Checks.due("tell(" + holder + "), holds(" + h + ")", x.holds(h), h == holder ? 300 : 301);
            }
            Checks.due("a live part again by " + holder, x.tell(holder), false);
        }
    }

    private static void tellRefuses() {
        for (int holder : NO_HOLDERS) {
            refuses("tell of " + holder, Checks.INDEX, x -> x.tell(holder));
        }
        refuses("tell of who never held", Checks.STATE, x -> x.tell(0));
        refuses("tell of who never held", Checks.STATE, x -> x.tell(3));
        for (int h = 1; h < 3; h++) {
            int holder = h;
            Checks.dueThrows("tell of who let go", Checks.STATE, () -> shutBy(holder), x -> x.tell(holder));
        }
    }

    private static LogTurner shutBy(int holder) {
        LogTurner x = used();
        x.shut(holder);
        return x;
    }

    // ---- promise 8

    /** "holder: 0 to 3" */
    private static void writeByEach() {
        for (int holder = 0; holder < 4; holder++) {
            LogTurner x = new LogTurner();
            x.open(holder, 4);
            Checks.due("write by " + holder, x.write(holder, 5), 5);
            Checks.due("live(4)", x.live(4), 5);
            x.turn(4);
            Checks.due("write by " + holder + " to an old part", x.write(holder, 6), 11);
            Checks.due("lines(4, 0)", x.lines(4, 0), 11);
            Checks.due("live(4)", x.live(4), 0);
        }
    }

    /** "lines: 1 to 1000", "Returns how many lines the part has then." */
    private static void writeLines() {
        LogTurner x = new LogTurner();
        x.open(0, 0);
        int there = 0;
        for (int lines : new int[] {1, 1000, 2, 999, 1, 1000}) {
            there += lines;
            Checks.due("write of " + lines, x.write(0, lines), there);
            Checks.due("live(0)", x.live(0), there);
        }
        x.open(1, 0);
        Checks.due("by another holder", x.write(1, 1), there + 1);
    }

    private static void writeRefusesHolders() {
        for (int holder : NO_HOLDERS) {
            refuses("write by " + holder, Checks.INDEX, x -> x.write(holder, 1));
            for (int lines : new int[] {0, 1001, -1}) {
                refuses("the holder before the lines", Checks.INDEX, x -> x.write(holder, lines));
            }
        }
    }

    private static void writeRefusesLines() {
        for (int lines : new int[] {0, 1001, -1, 1002, MIN, MAX}) {
            refuses("write of " + lines + " to an old part", Checks.ARGUMENT, x -> x.write(1, lines));
            refuses("write of " + lines + " to a live part", Checks.ARGUMENT, x -> x.write(2, lines));
            refuses("the lines before what is held", Checks.ARGUMENT, x -> x.write(0, lines));
        }
    }

    private static void writeRefusesWhoHoldsNothing() {
        for (int lines : new int[] {1, 1000}) {
            refuses("write by who never held", Checks.STATE, x -> x.write(0, lines));
            refuses("write by who never held", Checks.STATE, x -> x.write(3, lines));
            for (int h = 1; h < 3; h++) {
                int holder = h;
                Checks.dueThrows("write by who let go", Checks.STATE, () -> shutBy(holder),
                        x -> x.write(holder, lines));
            }
        }
    }

    // ---- promise 9

    /** "days: 1 to 100", "Returns the day then." */
    private static void advanceDays() {
        LogTurner x = new LogTurner();
        int day = 0;
        for (int days : new int[] {1, 100, 2, 99, 50, 1}) {
            day += days;
            Checks.due("advance of " + days, x.advance(days), day);
            Checks.due("day()", x.day(), day);
        }
    }

    /** "without a run" */
    private static void advanceMakesNoRun() {
        LogTurner x = new LogTurner();
        x.setDue(0, 1, 1, 1, 0);
        x.setOld(0, 0, 1, true, true, true);
        x.open(0, 0);
        x.write(0, 1);
        x.advance(100);
        Checks.due("live(0)", x.live(0), 1);
        Checks.due("olds(0)", x.olds(0), 0);
        Checks.due("the last turn", x.lose(0), 0);
    }

    private static void advanceUpToTheLastDay() {
        Checks.due("4900 and 100", Steps.onDay(4900).advance(100), 5000);
        Checks.due("4901 and 99", Steps.onDay(4901).advance(99), 5000);
        Checks.due("4999 and 1", Steps.onDay(4999).advance(1), 5000);
        Checks.due("4998 and 1", Steps.onDay(4998).advance(1), 4999);
        Checks.due("4899 and 100", Steps.onDay(4899).advance(100), 4999);
    }

    private static void advanceRefusesDays() {
        for (int days : new int[] {0, 101, -1, 102, MIN, MAX}) {
            refuses("advance of " + days, Checks.ARGUMENT, x -> x.advance(days));
        }
    }

    /** "IllegalStateException if the day would be above 5000" */
    private static void advanceRefusesTheLastDayPassed() {
        Checks.dueThrows("4901 and 100", Checks.STATE, () -> usedUpTo(4901), x -> x.advance(100));
        Checks.dueThrows("4902 and 99", Checks.STATE, () -> usedUpTo(4902), x -> x.advance(99));
        Checks.dueThrows("4999 and 2", Checks.STATE, () -> usedUpTo(4999), x -> x.advance(2));
        Checks.dueThrows("4999 and 100", Checks.STATE, () -> usedUpTo(4999), x -> x.advance(100));
        Checks.dueThrows("5000 and 1", Checks.STATE, () -> usedUpTo(5000), x -> x.advance(1));
        Checks.dueThrows("5000 and 100", Checks.STATE, () -> usedUpTo(5000), x -> x.advance(100));
    }

    private static void advanceRefusesDaysFirst() {
        for (int days : new int[] {0, 101, -1, MIN, MAX}) {
            Checks.dueThrows("5000 and " + days, Checks.ARGUMENT, () -> usedUpTo(5000), x -> x.advance(days));
            Checks.dueThrows("4950 and " + days, Checks.ARGUMENT, () -> usedUpTo(4950), x -> x.advance(days));
        }
    }

    // ---- promise 10

    /** "the bit f for the file f" */
    private static void runReturnsTheBits() {
        Checks.due("none", new LogTurner().run(), 0);
        for (int file = 0; file < 5; file++) {
            LogTurner x = new LogTurner();
            x.setDue(0, 0, 3, NONE, 0);
            x.open(0, file);
            x.write(0, 1);
            x.advance(2);
            Checks.due("not due yet", x.run(), 0);
            x.advance(1);
            Checks.due("the bit of " + file, x.run(), 1 << file);
            Checks.due("turned once", x.run(), 0);
            Checks.due("its old parts", x.olds(file), 1);
        }
    }

    // ---- promise 11

    /** "file: 0 to 4" */
    private static void turnOfEach() {
        for (int file = 0; file < 5; file++) {
            LogTurner x = new LogTurner();
            x.turn(file);
            for (int f = 0; f < 5; f++) {
                Checks.due("turn(" + file + "), olds(" + f + ")", x.olds(f), f == file ? 1 : 0);
            }
        }
    }

    /** "whether or not it is due, even without lines" */
    private static void turnWhetherOrNotDue() {
        LogTurner x = new LogTurner();
        x.setDue(0, 5, NONE, NONE, 50);
        x.open(0, 0);
        Checks.due("without lines", x.turn(0), 0);
        x.tell(0);
        x.write(0, 5);
        Checks.due("too soon", x.isDue(0), false);
        x.turn(0);
        x.tell(0);
        x.write(0, 5);
        x.advance(50);
        Checks.due("due", x.isDue(0), true);
        x.turn(0);
        Checks.due("all of them", x.olds(0), 3);
        Checks.due("without lines", x.lines(0, 0), 0);
        Checks.due("too soon", x.lines(0, 1), 5);
        Checks.due("due", x.lines(0, 2), 5);
    }

    /** "Returns how many old parts were thrown away." */
    private static void turnReturnsHowManyWereThrownAway() {
        for (int there = 0; there <= 10; there++) {
            LogTurner x = new LogTurner();
            x.setOld(0, 10, 0, false, false, false);
            for (int i = 0; i < there; i++) {
                x.turn(0);
            }
            x.setOld(0, 0, 0, false, false, false);
            Checks.due("all of them and the new one", x.turn(0), there + 1);
            Checks.due("none is left", x.olds(0), 0);
        }
        LogTurner y = new LogTurner();
        y.setOld(0, 1, 0, false, false, false);
        y.turn(0);
        y.turn(1);
        Checks.due("of this turn alone", y.turn(0), 1);
        Checks.due("of this turn alone", y.turn(0), 1);
    }

    /** "nobody is told" */
    private static void turnTellsNobody() {
        LogTurner x = new LogTurner();
        x.setDue(0, 1, NONE, NONE, 0);
        x.setOld(0, 3, 0, false, false, true);
        for (int h = 0; h < 4; h++) {
            x.open(h, 2);
        }
        x.write(0, 1);
        x.turn(2);
        for (int h = 0; h < 4; h++) {
            Checks.due("the holder " + h, x.holds(h), 201);
        }
    }

    private static void turnRefuses() {
        for (int file : NO_FILES) {
            refuses("turn of " + file, Checks.INDEX, x -> x.turn(file));
        }
    }

    // ---- promise 12

    /** "Returns its last turn before.": 0 if there was none, and a loss counts as one. */
    private static void loseReturnsTheLastTurnBefore() {
        for (int file = 0; file < 5; file++) {
            LogTurner x = new LogTurner();
            x.advance(3);
            Checks.due("never turned", x.lose(file), 0);
            Checks.due("lost today", x.lose(file), 3);
            x.advance(4);
            Checks.due("lost before", x.lose(file), 3);
            x.turn(file);
            Checks.due("turned today", x.lose(file), 7);
            x.advance(1);
            x.turn(file);
            x.advance(1);
            Checks.due("turned yesterday", x.lose(file), 8);
            for (int other = 0; other < 5; other++) {
                Checks.due("lose(" + file + "), then lose(" + other + ")", x.lose(other), other == file ? 9 : 0);
            }
        }
        LogTurner y = new LogTurner();
        y.turn(0);
        y.advance(1);
        Checks.due("turned on the day 0", y.lose(0), 0);
    }

    /** "it counts as turned last today" */
    private static void loseCountsAsTurnedToday() {
        for (int day : new int[] {0, 1, 6, 7, 8}) {
            LogTurner x = new LogTurner();
            x.setDue(0, 0, day % 7, NONE, 0);
            x.open(0, 0);
            x.write(0, 1);
            Steps.pass(x, day);
            x.lose(0);
            Checks.due("the weekday of today is not behind it", x.isDue(0), false);
            Checks.due("lost on the day " + day, x.nextDue(0), day + 7);
            x.setDue(0, 0, (day + 1) % 7, NONE, 0);
            Checks.due("the day behind it", x.nextDue(0), day + 1);
            for (int least : new int[] {0, 1, 2, 99, 100}) {
                x.setDue(0, 1, NONE, NONE, least);
                Checks.due("the least age holds from today", x.nextDue(0), day + least);
                Checks.due("the least age " + least, x.isDue(0), least == 0);
            }
        }
    }

    private static void loseTurnsNothing() {
        LogTurner x = new LogTurner();
        x.setDue(0, 0, NONE, NONE, 0);
        x.setOld(0, 3, 0, true, false, true);
        x.open(0, 1);
        x.write(0, 4);
        x.turn(1);
        x.turn(1);
        x.shut(0);
        x.open(0, 1);
        x.write(0, 5);
        x.setOld(0, 0, 1, true, false, true);
        x.advance(9);
        x.lose(1);
        Checks.due("live(1)", x.live(1), 5);
        Checks.due("olds(1)", x.olds(1), 2);
        Checks.due("isSqueezed(1, 0)", x.isSqueezed(1, 0), false);
        Checks.due("holds(0)", x.holds(0), 100);
        Checks.due("thrown(1)", x.thrown(1), 0);
        x.setOld(0, 3, 0, true, true, true);
        Checks.due("the day of an old part", x.name(1, 1), 1);
    }

    private static void loseRefuses() {
        for (int file : NO_FILES) {
            refuses("lose of " + file, Checks.INDEX, x -> x.lose(file));
        }
    }

    // ---- promise 13

    private static void dayIsAnswered() {
        Checks.due("the first one", new LogTurner().day(), 0);
        Checks.due("the next one", Steps.onDay(1).day(), 1);
        Checks.due("the last but one", Steps.onDay(4999).day(), 4999);
        Checks.due("the last one", Steps.onDay(5000).day(), 5000);
    }

    // ---- promises 14 and 15

    private static LogTurner written(int file, int size, int weekday, int monthly, int least) {
        LogTurner x = new LogTurner();
        x.setDue(0, size, weekday, monthly, least);
        x.open(0, file);
        x.write(0, 5);
        return x;
    }

    private static void isDueOfEach() {
        for (int file = 0; file < 5; file++) {
            LogTurner x = written(file, 5, NONE, NONE, 0);
            for (int f = 0; f < 5; f++) {
                Checks.due("lines in " + file + ", isDue(" + f + ")", x.isDue(f), f == file);
            }
            Checks.due("it is only asked", x.olds(file), 0);
        }
    }

    private static void isDueRefuses() {
        for (int file : NO_FILES) {
            refuses("isDue of " + file, Checks.INDEX, x -> x.isDue(file));
        }
    }

    /** "Returns the day, today or later ..; NONE if there is none." */
    private static void nextDueTodayOrLater() {
        Checks.due("today", written(0, 5, NONE, NONE, 100).nextDue(0), 0);
        Checks.due("tomorrow", written(0, 0, 1, NONE, 100).nextDue(0), 1);
        Checks.due("the longest for a weekday", written(0, 0, 0, NONE, 0).nextDue(0), 7);
        Checks.due("the longest for a day of the month", written(0, 0, NONE, 0, 0).nextDue(0), 30);
        Checks.due("none", written(0, 6, NONE, NONE, 0).nextDue(0), NONE);
        for (int least : new int[] {1, 99, 100}) {
            for (int kind = 0; kind < 3; kind++) {
                LogTurner x = written(0, kind == 0 ? 5 : 0, kind == 1 ? 4 : NONE, kind == 2 ? 1 : NONE, least);
                x.advance(3);
                Steps.turnAndWrite(x, 0, 0, 5);
                int behind = kind == 0 ? 3 : kind == 1 ? 4 : 31;
                Checks.due("the longest for a least age", x.nextDue(0), Math.max(behind, 3 + least));
            }
        }
        LogTurner missed = written(0, 0, 1, NONE, 0);
        missed.advance(100);
        Checks.due("missed long ago: today", missed.nextDue(0), 100);
        Checks.due("it is only asked", missed.day(), 100);
    }

    /** "also beyond the day 5000" */
    private static void nextDueBeyondTheLastDay() {
        for (int day : new int[] {4899, 4900, 4901, 4999, 5000}) {
            LogTurner x = written(0, 1, NONE, NONE, 100);
            Steps.pass(x, day);
            Checks.due("today", x.nextDue(0), day);
            Steps.turnAndWrite(x, 0, 0, 1);
            Checks.due("the least age since the day " + day, x.nextDue(0), day + 100);
            x.setDue(0, 0, day % 7, NONE, 0);
            Checks.due("the weekday of the day " + day, x.nextDue(0), day + 7);
            x.setDue(0, 0, NONE, day % 30, 0);
            Checks.due("the day of the month of the day " + day, x.nextDue(0), day + 30);
            x.setDue(0, 0, NONE, NONE, 100);
            Checks.due("none", x.nextDue(0), NONE);
        }
    }

    private static void nextDueOfEach() {
        for (int file = 0; file < 5; file++) {
            LogTurner x = written(file, 0, 6, NONE, 0);
            for (int f = 0; f < 5; f++) {
                Checks.due("lines in " + file + ", nextDue(" + f + ")", x.nextDue(f), f == file ? 6 : NONE);
            }
        }
    }

    private static void nextDueRefuses() {
        for (int file : NO_FILES) {
            refuses("nextDue of " + file, Checks.INDEX, x -> x.nextDue(file));
        }
    }

    // ---- promises 16 to 21

    private static void liveOldsAndThrownOfEach() {
        for (int file = 0; file < 5; file++) {
            LogTurner x = new LogTurner();
            x.setOld(0, 1, 0, false, false, false);
            x.open(0, file);
            for (int lines = 4; lines <= 6; lines++) {
                Checks.due("a live part without lines", x.live(file), 0);
                x.write(0, lines);
                x.turn(file);
                x.tell(0);
            }
            x.write(0, 9);
            for (int f = 0; f < 5; f++) {
                Checks.due("live(" + f + ")", x.live(f), f == file ? 9 : 0);
                Checks.due("olds(" + f + ")", x.olds(f), f == file ? 1 : 0);
                Checks.due("thrown(" + f + ")", x.thrown(f), f == file ? 4 + 5 : 0);
            }
            Checks.due("lines(" + file + ", 0)", x.lines(file, 0), 6);
        }
    }

    private static void liveOldsAndThrownRefuse() {
        for (int file : NO_FILES) {
            refuses("live of " + file, Checks.INDEX, x -> x.live(file));
            refuses("olds of " + file, Checks.INDEX, x -> x.olds(file));
            refuses("thrown of " + file, Checks.INDEX, x -> x.thrown(file));
        }
    }

    /** "k: from 0, the oldest one first" */
    private static void oldPartsFromZeroTheOldestFirst() {
        for (int there = 1; there <= 5; there++) {
            LogTurner x = new LogTurner();
            x.setOld(0, 10, 0, true, false, false);
            for (int lines = 1; lines <= there; lines++) {
                x.open(0, 3);
                x.write(0, lines);
                x.shut(0);
                x.turn(3);
            }
            for (int k = 0; k < there; k++) {
                String what = "the part " + k + " of " + there;
                Checks.due(what + ": lines", x.lines(3, k), k + 1);
                Checks.due(what + ": name", x.name(3, k), there - k);
                Checks.due(what + ": isSqueezed", x.isSqueezed(3, k), k < there - 1);
            }
        }
    }

    private static LogTurner withOlds(int there) {
        LogTurner x = new LogTurner();
        x.setOld(0, 10, 0, false, there % 2 == 0, false);
        for (int i = 0; i < there; i++) {
            x.turn(1);
        }
        x.turn(0);
        return x;
    }

    private static LogTurner withThrownOnes() {
        LogTurner x = withOlds(5);
        x.setOld(0, 2, 0, false, false, false);
        x.turn(1);
        return x;
    }

    /** "IndexOutOfBoundsException if there is no such file or old part" */
    private static void oldPartsRefuse() {
        for (int n = 0; n <= 3; n++) {
            int there = n;
            for (int k : new int[] {-1, there, there + 1, MIN, MAX}) {
                refusesOldPart(() -> withOlds(there), 1, k);
            }
        }
        for (int k : new int[] {-1, 2, 3, 4, 5}) {
            refusesOldPart(EdgesOfCallsTest::withThrownOnes, 1, k);
        }
        for (int file : NO_FILES) {
            refusesOldPart(() -> withOlds(2), file, 0);
            refusesOldPart(() -> withOlds(2), file, 2);
            refusesOldPart(() -> withOlds(2), file, -1);
        }
    }

    private static void refusesOldPart(Checks.Maker maker, int file, int k) {
        String what = "of the part " + k + " of the file " + file;
        Checks.dueThrows("lines " + what, Checks.INDEX, maker, x -> x.lines(file, k));
        Checks.dueThrows("name " + what, Checks.INDEX, maker, x -> x.name(file, k));
        Checks.dueThrows("isSqueezed " + what, Checks.INDEX, maker, x -> x.isSqueezed(file, k));
    }

    /** "how many lines of a file were thrown away": as many as the part has when it goes. */
    private static void thrownCountsLines() {
        LogTurner x = new LogTurner();
        x.setDue(0, 1, NONE, NONE, 0);
        x.setOld(0, 1, 0, false, false, false);
        Checks.due("none", x.thrown(0), 0);
        x.turn(0);
        x.turn(0);
        Checks.due("one without lines", x.thrown(0), 0);
        x.open(0, 0);
        x.write(0, 1000);
        x.turn(0);
        x.write(0, 1);
        x.turn(0);
        Checks.due("a held one stays, and the latest goes", x.thrown(0), 0);
        x.write(0, 2);
        x.open(0, 0);
        x.write(0, 30);
        Checks.due("not before the turn", x.thrown(0), 0);
        Checks.due("run()", x.run(), 1);
        Checks.due("with what was written behind its turn", x.thrown(0), 1003);
        x.shut(0);
        x.turn(0);
        Checks.due("thrown away by a run and by a turn", x.thrown(0), 1033);
    }

    // ---- promise 22

    /** "100 times the file, and 0 for the live part, or 1 and k .. for the old part k; NONE .." */
    private static void holdsOfEach() {
        for (int holder = 0; holder < 4; holder++) {
            for (int file = 0; file < 5; file++) {
                LogTurner x = new LogTurner();
                x.setOld(0, 10, 0, false, false, false);
                Checks.due("nothing", x.holds(holder), NONE);
                x.open(holder, file);
                Checks.due("the live part", x.holds(holder), 100 * file);
                x.turn(file);
                Checks.due("the old part 0", x.holds(holder), 100 * file + 1);
                x.open(holder, file);
                x.turn(file);
                Checks.due("the old part 1", x.holds(holder), 100 * file + 2);
                x.turn(file);
                Checks.due("the old part 1, not the latest", x.holds(holder), 100 * file + 2);
                x.shut(holder);
                Checks.due("nothing any more", x.holds(holder), NONE);
            }
        }
    }

    /** "1 and k": k falls when an older one is thrown away. */
    private static void holdsCountsTheOldPartsThatAreThere() {
        LogTurner x = new LogTurner();
        x.setOld(0, 10, 0, false, false, false);
        x.turn(0);
        x.turn(0);
        x.open(2, 0);
        x.turn(0);
        Checks.due("the old part 2", x.holds(2), 3);
        x.setOld(0, 3, 0, false, false, false);
        x.turn(0);
        Checks.due("the old part 1", x.holds(2), 2);
        x.turn(0);
        Checks.due("the old part 0", x.holds(2), 1);
        x.turn(0);
        Checks.due("the old part 0, held", x.holds(2), 1);
        Checks.due("as many as are kept", x.olds(0), 3);
    }

    private static void holdsRefuses() {
        for (int holder : NO_HOLDERS) {
            refuses("holds of " + holder, Checks.INDEX, x -> x.holds(holder));
        }
    }
}
