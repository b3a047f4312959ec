/** Promises 9 to 13: advance, run, turn, lose, day. */
public final class TurnsTest {

    private static final int NONE = LogTurner.NONE;

    public static void main(String[] args) {
        advance();
        runTurnsTheDueOnes();
        runTellsOncePerRule();
        runTellsByTheRuleOfNow();
        turn();
        turnSqueezes();
        turnThrowsByNumber();
        turnThrowsByAge();
        turnSparesTheYoungAndTheHeld();
        lose();
        Checks.end();
    }

    private static LogTurner with(int keep, int greatest, int least, boolean squeezes) {
        LogTurner x = new LogTurner();
        x.setDue(0, 0, NONE, NONE, least);
        x.setOld(0, keep, greatest, squeezes, false, false);
        return x;
    }

    private static void advance() {
        LogTurner x = new LogTurner();
        x.setDue(0, 0, 1, NONE, 0);
        x.open(0, 0);
        x.write(0, 1);
        Checks.due("advance(1)", x.advance(1), 1);
        Checks.due("advance(100)", x.advance(100), 101);
        Checks.due("day()", x.day(), 101);
        Checks.due("no run was made", x.olds(0), 0);
        for (int i = 0; i < 48; i++) {
            x.advance(100);
        }
        Checks.due("advance(99)", x.advance(99), 5000);
        Checks.due("day()", x.day(), 5000);
    }

    private static void runTurnsTheDueOnes() {
        LogTurner x = new LogTurner();
        x.setDue(0, 5, NONE, NONE, 0);
        for (int f = 0; f < 4; f++) {
            x.open(f, f == 3 ? 4 : f);
            x.write(f, f == 1 ? 4 : 5);
        }
        Checks.due("run()", x.run(), 1 + 4 + 16);
        Checks.due("a file that was turned", x.live(4), 0);
        Checks.due("its old part", x.lines(4, 0), 5);
        Checks.due("a file that was not due", x.olds(1), 0);
        Checks.due("a file without lines", x.olds(3), 0);
        Checks.due("nobody is told", x.holds(3), 401);
        Checks.due("run() again", x.run(), 0);
        x.tell(0);
        x.write(0, 5);
        Checks.due("a run on the same day", x.run(), 1);
    }

    private static void runTellsOncePerRule() {
        LogTurner x = new LogTurner();
        x.setDue(0, 5, NONE, NONE, 0);
        x.setDue(1, 5, NONE, NONE, 0);
        x.setOld(0, 3, 0, false, false, true);
        x.setOld(2, 3, 0, false, false, true);
        x.give(2, 1);
        x.give(3, 2);
        for (int h = 0; h < 4; h++) {
            x.open(h, h);
        }
        x.write(0, 5);
        x.write(2, 5);
        x.turn(1);
        x.turn(3);
        Checks.due("run()", x.run(), 1 + 4);
        Checks.due("told: its file was turned", x.holds(0), 0);
        Checks.due("told: another file of the rule was turned", x.holds(1), 100);
        Checks.due("not told: the rule does not tell", x.holds(2), 201);
        Checks.due("not told: no file of the rule was turned", x.holds(3), 301);
        x.shut(0);
        x.open(1, 0);
        x.turn(0);
        Checks.due("a run without turns", x.run(), 0);
        Checks.due("tells nobody", x.holds(1), 2);
        Checks.due("and who holds nothing holds nothing", x.holds(0), NONE);
    }

    private static void runTellsByTheRuleOfNow() {
        LogTurner x = new LogTurner();
        x.setDue(1, 1, NONE, NONE, 0);
        x.setOld(1, 3, 0, false, false, true);
        x.open(0, 0);
        x.open(1, 1);
        x.open(2, 1);
        x.turn(0);
        x.give(1, 1);
        x.write(1, 1);
        Checks.due("run()", x.run(), 2);
        Checks.due("of a file of another rule", x.holds(0), 1);
        Checks.due("of the file", x.holds(1), 100);
        Checks.due("all holders of the file", x.holds(2), 100);
        x.write(1, 1);
        x.give(0, 1);
        Checks.due("run()", x.run(), 2);
        Checks.due("given since", x.holds(0), 0);
    }

    private static void turn() {
        LogTurner x = new LogTurner();
        x.setDue(0, 0, 3, NONE, 0);
        x.open(0, 1);
        x.write(0, 7);
        x.advance(2);
        Checks.due("turned though not due", x.turn(1), 0);
        Checks.due("olds(1)", x.olds(1), 1);
        Checks.due("lines(1, 0)", x.lines(1, 0), 7);
        Checks.due("live(1)", x.live(1), 0);
        Checks.due("nobody is told", x.holds(0), 101);
        Checks.due("turned without lines", x.turn(1), 0);
        Checks.due("lines(1, 1)", x.lines(1, 1), 0);
        Checks.due("other files are not turned", x.olds(0), 0);
        x.setOld(0, 3, 0, false, true, true);
        Checks.due("the day of the turn", x.name(1, 1), 2001);
        x.turn(1);
        Checks.due("nobody is told, even by a rule that tells", x.holds(0), 101);
        Checks.due("its last turn", x.lose(1), 2);
    }

    private static void turnSqueezes() {
        LogTurner x = with(10, 0, 0, true);
        x.open(0, 0);
        x.turn(0);
        Checks.due("the latest one is not squeezed", x.isSqueezed(0, 0), false);
        x.turn(0);
        Checks.due("a held one is not squeezed", x.isSqueezed(0, 0), false);
        Checks.due("the latest one", x.isSqueezed(0, 1), false);
        x.turn(0);
        Checks.due("one turn later", x.isSqueezed(0, 1), true);
        x.tell(0);
        Checks.due("not before a turn", x.isSqueezed(0, 0), false);
        x.turn(0);
        Checks.due("let go", x.isSqueezed(0, 0), true);
        Checks.due("the latest, now held", x.isSqueezed(0, 3), false);
        x.setOld(0, 10, 0, false, false, false);
        x.turn(0);
        Checks.due("a squeezed part stays so", x.isSqueezed(0, 0), true);
        Checks.due("the rule squeezes no more", x.isSqueezed(0, 2), true);
        x.shut(0);
        x.turn(0);
        Checks.due("not squeezed without the rule", x.isSqueezed(0, 3), false);
    }

    private static void turnThrowsByNumber() {
        LogTurner x = with(2, 0, 0, false);
        x.open(0, 0);
        for (int lines = 1; lines <= 3; lines++) {
            x.write(0, lines);
            Checks.due("turn(0)", x.turn(0), lines == 3 ? 1 : 0);
            x.tell(0);
        }
        Checks.due("the oldest one goes", x.lines(0, 0), 2);
        Checks.due("thrown(0)", x.thrown(0), 1);
        x.setOld(0, 0, 0, false, false, false);
        Checks.due("keep 0", x.turn(0), 2);
        Checks.due("the latest is held", x.holds(0), 1);
        x.shut(0);
        Checks.due("the latest itself goes too", x.turn(0), 2);
        Checks.due("thrown(0)", x.thrown(0), 6);
    }

    private static void turnThrowsByAge() {
        LogTurner x = with(10, 5, 0, false);
        x.turn(0);
        x.advance(1);
        x.turn(0);
        x.advance(4);
        Checks.due("of the greatest age", x.turn(0), 0);
        x.advance(1);
        Checks.due("above it", x.turn(0), 1);
        Checks.due("olds(0)", x.olds(0), 3);
        x.advance(100);
        Checks.due("all of them but the new one", x.turn(0), 3);
        x.setOld(0, 10, 0, false, false, false);
        x.advance(100);
        Checks.due("no greatest age", x.turn(0), 0);
    }

    private static void turnSparesTheYoungAndTheHeld() {
        LogTurner x = with(1, 3, 10, false);
        x.turn(0);
        x.advance(9);
        Checks.due("younger than the least age, by number and by age", x.turn(0), 0);
        x.advance(1);
        Checks.due("of the least age", x.turn(0), 1);
        Checks.due("the young ones stay", x.olds(0), 2);
        x.open(0, 1);
        x.turn(1);
        x.turn(1);
        x.advance(100);
        Checks.due("one is held, one goes", x.turn(1), 1);
        Checks.due("holds(0)", x.holds(0), 101);
        Checks.due("olds(1)", x.olds(1), 2);
        LogTurner y = with(2, 0, 0, false);
        y.open(0, 0);
        y.turn(0);
        y.turn(0);
        Checks.due("the next one goes for the held one", y.turn(0), 1);
        Checks.due("as many as are kept", y.olds(0), 2);
        Checks.due("the held one", y.holds(0), 1);
    }

    private static void lose() {
        LogTurner x = new LogTurner();
        x.setDue(0, 0, 3, NONE, 0);
        x.open(0, 0);
        x.write(0, 1);
        x.advance(4);
        Checks.due("a day that was missed", x.isDue(0), true);
        Checks.due("never turned", x.lose(0), 0);
        Checks.due("the missed day is forgotten", x.isDue(0), false);
        Checks.due("the next one is not", x.nextDue(0), 10);
        x.advance(1);
        Checks.due("lost before", x.lose(0), 4);
        Checks.due("nothing else is changed", x.live(0) + x.olds(0), 1);
        x.turn(0);
        x.advance(1);
        Checks.due("turned before", x.lose(0), 5);
        LogTurner y = new LogTurner();
        y.setDue(0, 1, NONE, NONE, 8);
        y.open(0, 2);
        y.write(0, 1);
        Checks.due("never turned: no least age", y.isDue(2), true);
        y.lose(2);
        Checks.due("counts as turned: the least age", y.nextDue(2), 8);
    }
}
