/**
 * "Terms", from the holders on: a test of its own for each sentence that names a boundary case, with
 * the value at the edge and the ones on both sides of it.
 */
public final class TermsPartsTest {

    private static final int NONE = LogTurner.NONE;

    public static void main(String[] args) {
        noLineIsLost();
        holderHoldsOnePartOrNone();
        openHoldsTheLivePart();
        linesGoToThePartThatIsHeld();
        tellHoldsTheLivePartOfTheSameFile();
        turnedPartIsTheLatest();
        turnedPartIsOfThisDay();
        livePartIsNewWithoutLines();
        squeezesNotTheLatest();
        squeezesNotTheHeld();
        squeezesByTheRule();
        squeezedStaysSo();
        throwsNotTheHeld();
        throwsNotTheYoungerThanTheLeastAge();
        throwsWhileMoreAreThereThanAreKept();
        throwsTheOldestFirst();
        throwsByTheNumberAtThatMoment();
        throwsAboveTheGreatestAge();
        greatestAgeZeroForNone();
        throwsOncePerTurnAndFile();
        runTurnsThoseThatAreDue();
        runTellsWhatTurnedInThisRun();
        runTellsAllHoldersOfTheRule();
        runTellsOfFilesNotTurnedToo();
        runTellsByTheRuleThatTurned();
        runTellsBehindTheTurns();
        runTellsBehindTheTurnsOfAllItsFiles();
        nameOfTheDay();
        nameCountsTheOlderOfTheSameDay();
        nameCountsThoseThatAreThere();
        nameOtherwiseFromTheLatest();
        fiveHundredAndTwelveCalls();
        Checks.end();
    }

    /** The rule 0 has no size, weekday or day of the month. */
    private static LogTurner with(int keep, int greatest, int least, boolean squeezes) {
        LogTurner x = new LogTurner();
        x.setDue(0, 0, NONE, NONE, least);
        x.setOld(0, keep, greatest, squeezes, false, false);
        return x;
    }

    private static void turns(LogTurner x, int file, int times) {
        for (int i = 0; i < times; i++) {
            x.turn(file);
        }
    }

    /** Each old part has another number of lines, from 1 on. */
    private static void turnsWithLines(LogTurner x, int times) {
        for (int lines = 1; lines <= times; lines++) {
            x.open(3, 0);
            x.write(3, lines);
            x.turn(0);
        }
        x.shut(3);
    }

    private static String squeezed(LogTurner x, int file) {
        StringBuilder text = new StringBuilder();
        for (int k = 0; k < x.olds(file); k++) {
            text.append(x.isSqueezed(file, k) ? 's' : '-');
        }
        return text.toString();
    }

    private static String lines(LogTurner x, int file) {
        StringBuilder text = new StringBuilder();
        for (int k = 0; k < x.olds(file); k++) {
            text.append(x.lines(file, k)).append(' ');
        }
        return text.toString();
    }

    private static String names(LogTurner x, int file) {
        StringBuilder text = new StringBuilder();
        for (int k = 0; k < x.olds(file); k++) {
            text.append(x.name(file, k)).append(' ');
        }
        return text.toString();
    }

    /** "No line is lost between a turn and the holder who goes on." */
    private static void noLineIsLost() {
        LogTurner x = with(1, 0, 0, true);
        x.open(0, 2);
        int written = 0;
        for (int i = 1; i <= 30; i++) {
            x.write(0, i);
            written += i;
            if (i % 3 == 0) {
                x.turn(2);
            }
            if (i % 7 == 0) {
                x.tell(0);
            }
            int there = x.live(2) + x.thrown(2);
            for (int k = 0; k < x.olds(2); k++) {
                there += x.lines(2, k);
            }
            Checks.due("lines there and thrown away after write " + i, there, written);
        }
    }

    /** "A holder holds a part open, or none." */
    private static void holderHoldsOnePartOrNone() {
        LogTurner x = with(0, 0, 0, false);
        for (int h = 0; h < 4; h++) {
            Checks.due("none, the holder " + h, x.holds(h), NONE);
        }
        x.open(2, 0);
        x.open(2, 1);
        Checks.due("the second one", x.holds(2), 100);
        Checks.due("the first one is held no more", x.turn(0), 1);
        Checks.due("the second one is", x.turn(1), 0);
        for (int h = 0; h < 4; h++) {
            Checks.due("the holder " + h, x.holds(h), h == 2 ? 101 : NONE);
        }
    }

    /** "To open a file is to hold its live part.": also right behind a turn. */
    private static void openHoldsTheLivePart() {
        LogTurner x = with(10, 0, 0, false);
        x.open(0, 4);
        Checks.due("before any turn", x.holds(0), 400);
        x.turn(4);
        x.open(1, 4);
        Checks.due("held since before the turn", x.holds(0), 401);
        Checks.due("opened behind the turn", x.holds(1), 400);
        x.open(0, 4);
        Checks.due("opened once more", x.holds(0), 400);
        x.open(0, 4);
        Checks.due("opened twice at once", x.holds(0), 400);
    }

    /** "Lines .. go to the part that it holds; when that is turned, it is an old part .. holds it still." */
    private static void linesGoToThePartThatIsHeld() {
        LogTurner x = with(10, 0, 0, false);
        x.open(0, 1);
        x.write(0, 2);
        Checks.due("the live part", x.live(1), 2);
        x.turn(1);
        Checks.due("held still", x.holds(0), 101);
        Checks.due("written on to", x.write(0, 3), 5);
        Checks.due("the old part", lines(x, 1), "5 ");
        Checks.due("the live part", x.live(1), 0);
        x.turn(1);
        Checks.due("held after one more turn", x.holds(0), 101);
        Checks.due("written on to", x.write(0, 4), 9);
        Checks.due("the old parts", lines(x, 1), "9 0 ");
        x.open(1, 1);
        x.write(1, 7);
        Checks.due("the live part of another holder", x.live(1), 7);
        Checks.due("the old parts", lines(x, 1), "9 0 ");
    }

    /** "To tell a holder is to let it hold the live part of the same file." */
    private static void tellHoldsTheLivePartOfTheSameFile() {
        for (int turns = 0; turns <= 3; turns++) {
            LogTurner x = with(10, 0, 0, false);
            x.open(0, 3);
            x.open(1, 3);
            turns(x, 3, turns);
            x.turn(2);
            Checks.due("told after turns: " + turns, x.tell(0), turns > 0);
            Checks.due("the live part after turns: " + turns, x.holds(0), 300);
            Checks.due("another holder after turns: " + turns, x.holds(1), turns > 0 ? 301 : 300);
            x.write(0, 6);
            Checks.due("the live part after turns: " + turns, x.live(3), 6);
        }
    }

    /** "its live part becomes the latest old part" */
    private static void turnedPartIsTheLatest() {
        LogTurner x = with(10, 0, 0, false);
        turnsWithLines(x, 3);
        Checks.due("in the order in which they were turned", lines(x, 0), "1 2 3 ");
        x.turn(0);
        Checks.due("one without lines", lines(x, 0), "1 2 3 0 ");
        Checks.due("of no other file", x.olds(1), 0);
    }

    /** "of this day .. This day is its last turn." */
    private static void turnedPartIsOfThisDay() {
        LogTurner x = with(10, 0, 0, false);
        x.setOld(0, 10, 0, false, true, false);
        for (int day : new int[] {0, 1, 2, 4999, 5000}) {
            Steps.pass(x, day - x.day());
            x.turn(0);
        }
        Checks.due("the days", names(x, 0), "0 1000 2000 4999000 5000000 ");
        Checks.due("the last turn", x.lose(0), 5000);
        Checks.due("that of another file", x.lose(1), 0);
    }

    /** "the live part is a new one without lines" */
    private static void livePartIsNewWithoutLines() {
        LogTurner x = with(10, 0, 0, false);
        x.open(0, 0);
        x.write(0, 1000);
        x.turn(0);
        Checks.due("live(0)", x.live(0), 0);
        x.tell(0);
        Checks.due("the first line", x.write(0, 1), 1);
        Checks.due("the old part", lines(x, 0), "1000 ");
    }

    /** "each one is squeezed that .. is not the latest one" */
    private static void squeezesNotTheLatest() {
        LogTurner x = with(10, 0, 0, true);
        x.turn(0);
        Checks.due("one part", squeezed(x, 0), "-");
        x.turn(0);
        Checks.due("two parts", squeezed(x, 0), "s-");
        x.turn(0);
        Checks.due("three parts", squeezed(x, 0), "ss-");
        x.turn(1);
        Checks.due("the turn of another file", squeezed(x, 0), "ss-");
        x.advance(100);
        Checks.due("no turn", squeezed(x, 0), "ss-");
        LogTurner y = with(1, 0, 0, true);
        turns(y, 0, 3);
        Checks.due("the latest one, when it is the only one", squeezed(y, 0), "-");
    }

    /** "and is not held by anybody": by whichever holder, until the next turn behind its letting go. */
    private static void squeezesNotTheHeld() {
        for (int holder = 0; holder < 4; holder++) {
            for (int how = 0; how < 3; how++) {
                LogTurner x = with(10, 0, 0, true);
                x.turn(0);
                x.open(holder, 0);
                x.turn(0);
                Checks.due("the latest is held by " + holder, squeezed(x, 0), "s-");
                x.turn(0);
                Checks.due("held by " + holder, squeezed(x, 0), "s--");
                letGo(x, holder, how);
                Checks.due("let go by " + holder, squeezed(x, 0), "s--");
                x.turn(0);
                Checks.due("a turn later", squeezed(x, 0), "sss-");
            }
        }
        LogTurner y = with(10, 0, 0, true);
        y.open(0, 0);
        y.open(1, 0);
        turns(y, 0, 2);
        y.shut(0);
        y.turn(0);
        Checks.due("one of two holders holds it still", squeezed(y, 0), "-s-");
        y.shut(1);
        y.turn(0);
        Checks.due("the second one let it go too", squeezed(y, 0), "sss-");
    }

    private static void letGo(LogTurner x, int holder, int how) {
        if (how == 0) {
            x.shut(holder);
        } else if (how == 1) {
            x.tell(holder);
        } else {
            x.open(holder, 4);
        }
    }

    /** "If the rule squeezes": by the rule to which the file belongs at the turn. */
    private static void squeezesByTheRule() {
        LogTurner x = with(10, 0, 0, false);
        turns(x, 0, 3);
        Checks.due("the rule does not", squeezed(x, 0), "---");
        x.setOld(1, 10, 0, true, false, false);
        x.turn(0);
        Checks.due("another rule does", squeezed(x, 0), "----");
        x.give(0, 1);
        Checks.due("given to the other rule", squeezed(x, 0), "----");
        x.turn(0);
        Checks.due("turned by the other rule", squeezed(x, 0), "ssss-");
        x.give(0, 2);
        x.setOld(2, 10, 0, false, false, false);
        x.turn(0);
        Checks.due("turned by one that does not", squeezed(x, 0), "ssss--");
    }

    /** "a squeezed part stays so" */
    private static void squeezedStaysSo() {
        LogTurner x = with(10, 0, 0, true);
        turns(x, 0, 2);
        Checks.due("squeezed", squeezed(x, 0), "s-");
        x.setOld(0, 10, 0, false, false, false);
        Checks.due("when the rule squeezes no more", squeezed(x, 0), "s-");
        x.turn(0);
        Checks.due("turned without squeezing", squeezed(x, 0), "s--");
        x.setOld(0, 10, 0, true, false, false);
        x.turn(0);
        Checks.due("turned with squeezing again", squeezed(x, 0), "sss-");
        x.lose(0);
        x.setOld(0, 3, 0, true, false, false);
        x.turn(0);
        Checks.due("those that stay when others go", squeezed(x, 0), "ss-");
    }

    /** "one is thrown away if it is not held by anybody": by whichever holder, however old. */
    private static void throwsNotTheHeld() {
        for (int holder = 0; holder < 4; holder++) {
            for (int how = 0; how < 3; how++) {
                LogTurner x = with(0, 1, 0, false);
                x.open(holder, 0);
                x.write(holder, 8);
                x.advance(1);
                Checks.due("just turned, held by " + holder, x.turn(0), 0);
                x.advance(100);
                Checks.due("the held one stays, the new one goes", x.turn(0), 1);
                Checks.due("held by " + holder, lines(x, 0), "8 ");
                letGo(x, holder, how);
                Checks.due("let go by " + holder, lines(x, 0), "8 ");
                Checks.due("with the next turn it goes", x.turn(0), how == 1 ? 1 : 2);
                Checks.due("its lines", x.thrown(0), 8);
            }
        }
        LogTurner y = with(0, 0, 0, false);
        y.open(0, 0);
        y.open(1, 0);
        y.turn(0);
        y.shut(0);
        Checks.due("one of two holders holds it still", y.turn(0), 1);
        y.shut(1);
        Checks.due("nobody holds it", y.turn(0), 2);
    }

    /** "is not younger than the least age (its age is this day less its own day)" */
    private static void throwsNotTheYoungerThanTheLeastAge() {
        for (int least : new int[] {1, 2, 7, 99, 100}) {
            for (int age = least - 1; age <= least + 1; age++) {
                LogTurner byNumber = with(1, 0, least, false);
                byNumber.advance(3);
                byNumber.turn(0);
                Steps.pass(byNumber, age);
                Checks.due("by number, the least age " + least + ", the age " + age, byNumber.turn(0),
                        age >= least ? 1 : 0);
                LogTurner byAge = with(10, 1, least, false);
                byAge.advance(3);
                byAge.turn(0);
                Steps.pass(byAge, age);
                Checks.due("by age, the least age " + least + ", the age " + age, byAge.turn(0),
                        age >= least && age > 1 ? 1 : 0);
            }
        }
        LogTurner x = with(0, 0, 0, false);
        Checks.due("the least age 0, the age 0", x.turn(0), 1);
        LogTurner y = with(0, 0, 1, false);
        Checks.due("the least age 1, the age 0", y.turn(0), 0);
        y.advance(1);
        Checks.due("the least age 1, the ages 1 and 0", y.turn(0), 1);
        y.lose(0);
        Checks.due("the age is that of the part", y.turn(0), 0);
    }

    /** "more old parts are there .. than are kept" */
    private static void throwsWhileMoreAreThereThanAreKept() {
        for (int keep = 0; keep <= 10; keep++) {
            LogTurner x = with(keep, 0, 0, false);
            for (int turn = 1; turn <= keep + 2; turn++) {
                Checks.due("keep " + keep + ", turn " + turn, x.turn(0), turn > keep ? 1 : 0);
                Checks.due("keep " + keep + ", there", x.olds(0), Math.min(turn, keep));
            }
        }
    }

    /** "the oldest one first" */
    private static void throwsTheOldestFirst() {
        LogTurner x = with(10, 0, 0, false);
        turnsWithLines(x, 6);
        x.setOld(0, 4, 0, false, false, false);
        Checks.due("7 parts, 4 are kept", x.turn(0), 3);
        Checks.due("the ones that stay", lines(x, 0), "4 5 6 0 ");
        Checks.due("the lines that went", x.thrown(0), 1 + 2 + 3);
        LogTurner y = with(10, 0, 0, false);
        y.open(1, 0);
        y.write(1, 50);
        y.turn(0);
        turnsWithLines(y, 4);
        y.setOld(0, 4, 0, false, false, false);
        Checks.due("6 parts, 4 are kept, the oldest is held", y.turn(0), 2);
        Checks.due("the ones that stay", lines(y, 0), "50 3 4 0 ");
        Checks.due("the held one", y.holds(1), 1);
    }

    /** "more old parts are there at that moment": those thrown away count no more, the held ones do. */
    private static void throwsByTheNumberAtThatMoment() {
        LogTurner x = with(10, 0, 0, false);
        x.turn(0);
        x.advance(4);
        x.turn(0);
        x.advance(4);
        x.setOld(0, 2, 5, false, false, false);
        Checks.due("by age or by number, one is enough", x.turn(0), 1);
        Checks.due("the ones that stay", x.olds(0), 2);
        LogTurner y = with(2, 0, 0, false);
        y.open(0, 0);
        y.turn(0);
        y.open(1, 0);
        Checks.due("as many as are kept, all held", y.turn(0), 0);
        Checks.due("the latest goes for the held ones", y.turn(0), 1);
        Checks.due("the oldest", y.holds(0), 1);
        Checks.due("the next", y.holds(1), 2);
        y.open(2, 0);
        Checks.due("more are held than are kept", y.turn(0), 0);
        Checks.due("three", y.olds(0), 3);
        y.shut(1);
        Checks.due("one let go, and the latest", y.turn(0), 2);
        Checks.due("as many as are kept", y.olds(0), 2);
    }

    /** "or the rule has a greatest age and its age is above that" */
    private static void throwsAboveTheGreatestAge() {
        for (int greatest : new int[] {1, 2, 50, 100, 101, 999, 1000}) {
            for (int age = greatest - 1; age <= greatest + 1; age++) {
                LogTurner x = with(10, greatest, 0, false);
                x.advance(1);
                x.turn(0);
                Steps.pass(x, age);
                Checks.due("the greatest age " + greatest + ", the age " + age, x.turn(0), age > greatest ? 1 : 0);
                Checks.due("the ones that stay", x.olds(0), age > greatest ? 1 : 2);
            }
        }
        LogTurner y = with(10, 5, 0, false);
        turns(y, 0, 3);
        y.advance(1);
        turns(y, 0, 2);
        y.advance(5);
        Checks.due("all that are above it, none that is not", y.turn(0), 3);
    }

    /** "a greatest age (0 for none)" */
    private static void greatestAgeZeroForNone() {
        LogTurner x = with(10, 0, 0, false);
        x.turn(0);
        for (int age : new int[] {1, 2, 1000, 1001, 5000}) {
            Steps.pass(x, age - x.day());
            Checks.due("no greatest age, the age " + age, x.turn(0), 0);
        }
        x.setOld(0, 10, 1, false, false, false);
        Checks.due("the greatest age 1", x.turn(0), 5);
    }

    /** "Then its old parts are gone through": those of no other file, and not without a turn. */
    private static void throwsOncePerTurnAndFile() {
        LogTurner x = with(3, 0, 0, false);
        turns(x, 0, 3);
        turns(x, 1, 3);
        x.setOld(0, 1, 1, true, false, false);
        x.advance(100);
        Checks.due("not without a turn", x.olds(0), 3);
        Checks.due("of the one file", x.turn(0), 3);
        Checks.due("of the one file", x.olds(0), 1);
        Checks.due("not of the other one", x.olds(1), 3);
        Checks.due("not squeezed either", squeezed(x, 1), "---");
        Checks.due("a run that turns nothing", x.run(), 0);
        Checks.due("not by a run that turns nothing", x.olds(1), 3);
    }

    /** "goes through the files by rising numbers, and turns those that are due" */
    private static void runTurnsThoseThatAreDue() {
        for (int due = 0; due < 32; due++) {
            LogTurner x = new LogTurner();
            x.setDue(0, 2, NONE, NONE, 0);
            for (int f = 0; f < 5; f++) {
                x.open(0, f);
                x.write(0, (due >> f & 1) != 0 ? 2 : 1);
            }
            Checks.due("run()", x.run(), due);
            for (int f = 0; f < 5; f++) {
                Checks.due("turned, the file " + f + " of " + due, x.olds(f), due >> f & 1);
            }
            Checks.due("run() once more", x.run(), 0);
        }
    }

    /** The file 0 belongs to a rule that tells and is due from 5 lines on; the holder 0 holds it. */
    private static LogTurner telling() {
        LogTurner x = new LogTurner();
        x.setDue(0, 5, NONE, NONE, 0);
        x.setOld(0, 3, 0, false, false, true);
        x.open(0, 0);
        return x;
    }

    /** "of whose files at least one was turned in this run" */
    private static void runTellsWhatTurnedInThisRun() {
        LogTurner x = telling();
        x.write(0, 4);
        Checks.due("not due", x.run(), 0);
        x.turn(0);
        Checks.due("turned, but not in a run", x.holds(0), 1);
        Checks.due("a run on the same day", x.run(), 0);
        Checks.due("turned before this run", x.holds(0), 1);
        x.open(1, 1);
        x.write(1, 5);
        Checks.due("a run that turns another file of the rule", x.run(), 2);
        Checks.due("told", x.holds(0), 0);
        Checks.due("told", x.holds(1), 100);
        x.setOld(0, 3, 0, false, false, false);
        x.write(0, 5);
        Checks.due("a rule that tells no more", x.run(), 1);
        Checks.due("not told", x.holds(0), 2);
        x.setOld(0, 3, 0, false, false, true);
        Checks.due("a run that turns nothing", x.run(), 0);
        Checks.due("not told for the run before", x.holds(0), 2);
    }

    /** "tells all holders who hold parts of its files": whichever rule, file and holder. */
    private static void runTellsAllHoldersOfTheRule() {
        for (int rule = 0; rule < 3; rule++) {
            for (int file = 0; file < 5; file++) {
                LogTurner x = new LogTurner();
                x.setDue(rule, 1, NONE, NONE, 0);
                x.setOld(rule, 3, 0, false, false, true);
                x.give(file, rule);
                int other = (file + 1) % 5;
                x.give(other, (rule + 1) % 3);
                for (int holder = 0; holder < 4; holder++) {
                    x.open(holder, file);
                }
                x.write(0, 1);
                Checks.due("run()", x.run(), 1 << file);
                for (int holder = 0; holder < 4; holder++) {
                    Checks.due("the holder " + holder + " by the rule " + rule, x.holds(holder), 100 * file);
                }
                x.open(1, other);
                x.turn(other);
                x.shut(2);
                x.write(0, 1);
                Checks.due("run()", x.run(), 1 << file);
                Checks.due("of the rule", x.holds(3), 100 * file);
                Checks.due("of another rule", x.holds(1), 100 * other + 1);
                Checks.due("who holds nothing", x.holds(2), NONE);
            }
        }
    }

    /** "each rule that tells .. of whose files at least one was turned": the rule, not some other one. */
    private static void runTellsByTheRuleThatTurned() {
        for (int turner = 0; turner < 3; turner++) {
            for (int teller = 0; teller < 3; teller++) {
                LogTurner x = new LogTurner();
                x.setOld(teller, 3, 0, false, false, true);
                x.setDue(turner, 1, NONE, NONE, 0);
                for (int f = 0; f < 3; f++) {
                    x.give(f, f);
                    x.open(f, f);
                    x.turn(f);
                }
                x.open(3, turner);
                x.write(3, 1);
                Checks.due("run()", x.run(), 1 << turner);
                for (int f = 0; f < 3; f++) {
                    boolean told = turner == teller && f == teller;
                    Checks.due(turner + " turns, " + teller + " tells, holds(" + f + ")", x.holds(f),
                            told ? 100 * f : 100 * f + 1);
                }
            }
        }
    }

    /** "then each rule that tells ..": while the run turns, the holders hold what they held. */
    private static void runTellsBehindTheTurns() {
        LogTurner x = telling();
        x.setOld(0, 0, 0, true, false, true);
        x.write(0, 5);
        Checks.due("run()", x.run(), 1);
        Checks.due("held while it was turned, so it stays", lines(x, 0), "5 ");
        Checks.due("told behind it", x.holds(0), 0);
        x.write(0, 6);
        Checks.due("run()", x.run(), 1);
        Checks.due("the first one was not held, the second one was", lines(x, 0), "6 ");
        Checks.due("not squeezed as the latest", squeezed(x, 0), "-");
        Checks.due("thrown(0)", x.thrown(0), 5);
    }

    /** "all holders who hold parts of its files": also of a file of it that was not turned in the run. */
    private static void runTellsOfFilesNotTurnedToo() {
        LogTurner x = telling();
        x.open(1, 1);
        x.open(2, 2);
        x.turn(1);
        x.tell(1);
        x.turn(1);
        x.open(3, 1);
        x.write(3, 4);
        x.turn(2);
        x.advance(3);
        x.write(0, 5);
        Checks.due("run()", x.run(), 1);
        Checks.due("the file that was turned", x.holds(0), 0);
        Checks.due("one that was not, with lines", x.holds(1), 100);
        Checks.due("one that was not, without", x.holds(2), 200);
        Checks.due("held live", x.holds(3), 100);
        Checks.due("its lines", x.live(1), 4);
    }

    /** "goes through the files ..; then each rule that tells": not once the first of its files is turned. */
    private static void runTellsBehindTheTurnsOfAllItsFiles() {
        for (int first = 0; first < 4; first++) {
            LogTurner x = new LogTurner();
            x.setDue(0, 1, NONE, NONE, 0);
            x.setOld(0, 0, 0, true, false, true);
            int second = first + 1;
            x.open(0, second);
            x.write(0, 3);
            x.turn(second);
            x.open(1, second);
            x.write(1, 1);
            x.open(2, first);
            x.write(2, 1);
            Checks.due("run()", x.run(), 1 << first | 1 << second);
            Checks.due("both are held while the second file is turned", lines(x, second), "3 1 ");
            Checks.due("nor is one of them squeezed", squeezed(x, second), "--");
            Checks.due("then they are told", x.holds(0) + x.holds(1), 200 * second);
            Checks.due("then they are told", x.holds(2), 100 * first);
        }
    }

    /** "1000 times its day" */
    private static void nameOfTheDay() {
        LogTurner x = with(10, 0, 0, false);
        x.setOld(0, 10, 0, false, true, false);
        for (int day : new int[] {0, 1, 999, 1000, 5000}) {
            Steps.pass(x, day - x.day());
            x.turn(2);
        }
        Checks.due("dated names", names(x, 2), "0 1000 999000 1000000 5000000 ");
    }

    /** "and the number of older old parts of that file that have the same day .., added" */
    private static void nameCountsTheOlderOfTheSameDay() {
        LogTurner x = with(10, 0, 0, false);
        x.setOld(0, 10, 0, false, true, false);
        turns(x, 0, 3);
        turns(x, 1, 1);
        x.advance(1);
        turns(x, 1, 2);
        turns(x, 0, 2);
        x.advance(1);
        x.turn(0);
        Checks.due("dated names", names(x, 0), "0 1 2 1000 1001 2000 ");
        Checks.due("of another file", names(x, 1), "0 1000 1001 ");
    }

    /** "and are there": those thrown away count no more. */
    private static void nameCountsThoseThatAreThere() {
        LogTurner x = with(3, 0, 0, false);
        x.setOld(0, 3, 0, false, true, false);
        x.advance(2);
        turns(x, 0, 3);
        Checks.due("as many as are kept", names(x, 0), "2000 2001 2002 ");
        x.turn(0);
        Checks.due("the oldest is gone", names(x, 0), "2000 2001 2002 ");
        x.advance(1);
        x.turn(0);
        Checks.due("one more is gone", names(x, 0), "2000 2001 3000 ");
        turns(x, 0, 2);
        Checks.due("all of that day are gone", names(x, 0), "3000 3001 3002 ");
        x.setOld(0, 4, 0, false, true, false);
        x.open(0, 0);
        x.write(0, 1);
        x.turn(0);
        x.advance(1);
        x.shut(0);
        turns(x, 0, 2);
        Checks.due("two of a day are gone", names(x, 0), "3000 3001 4000 4001 ");
        turns(x, 0, 2);
        Checks.due("lines are gone too", x.thrown(0), 1);
        x.advance(1);
        turns(x, 0, 2);
        Checks.due("and the names are as before", names(x, 0), "4000 4001 5000 5001 ");
    }

    /** "otherwise 1 for the latest one, 2 for the one before, and so on" */
    private static void nameOtherwiseFromTheLatest() {
        LogTurner x = with(3, 0, 0, false);
        x.turn(0);
        Checks.due("one", names(x, 0), "1 ");
        x.advance(1);
        x.turn(0);
        Checks.due("two", names(x, 0), "2 1 ");
        turns(x, 0, 2);
        Checks.due("as many as are kept", names(x, 0), "3 2 1 ");
        x.setOld(1, 3, 0, false, true, false);
        Checks.due("another rule dates", names(x, 0), "3 2 1 ");
        x.give(0, 1);
        Checks.due("given to it", names(x, 0), "1000 1001 1002 ");
        x.setOld(1, 3, 0, false, false, false);
        Checks.due("it dates no more", names(x, 0), "3 2 1 ");
    }

    /** "An object is used for at most 512 calls": up to the last one it answers. */
    private static void fiveHundredAndTwelveCalls() {
        LogTurner names = with(0, 0, 100, false);
        turns(names, 4, 509);
        Checks.due("the greatest number, call 512", names.name(4, 0), 509);
        LogTurner dated = with(0, 0, 100, false);
        dated.setOld(0, 0, 0, true, true, false);
        turns(dated, 4, 508);
        Checks.due("the greatest dated name of a day, call 512", dated.name(4, 507), 507);
        LogTurner holds = with(0, 0, 100, false);
        turns(holds, 0, 507);
        holds.open(3, 0);
        holds.turn(0);
        Checks.due("the latest of the most old parts, call 512", holds.holds(3), 508);
        LogTurner many = with(0, 0, 100, false);
        turns(many, 0, 508);
        many.advance(100);
        Checks.due("the most thrown away by one turn, call 512", many.turn(0), 508);
        LogTurner lines = new LogTurner();
        lines.open(0, 0);
        for (int i = 0; i < 510; i++) {
            lines.write(0, 1000);
        }
        Checks.due("the most lines, call 512", lines.live(0), 510000);
        LogTurner turned = new LogTurner();
        turns(turned, 0, 511);
        Checks.due("a turn as call 512", turned.turn(0), 1);
        LogTurner older = new LogTurner();
        older.setDue(0, 0, NONE, NONE, 1);
        turns(older, 0, 510);
        Checks.due("olds as call 512", older.olds(0), 510);
    }
}
