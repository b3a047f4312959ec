/** Promises 1 to 4: a new object, setDue, setOld, give. */
public final class RulesTest {

    private static final int NONE = LogTurner.NONE;

    public static void main(String[] args) {
        newObject();
        newRules();
        newKeep();
        setDueTakesItsEdges();
        setDueSets();
        setOldTakesItsEdges();
        setOldSets();
        give();
        Checks.end();
    }

    private static void newObject() {
        LogTurner x = new LogTurner();
        Checks.due("a new day()", x.day(), 0);
        for (int f = 0; f < 5; f++) {
            Checks.due("a new live", x.live(f), 0);
            Checks.due("a new olds", x.olds(f), 0);
            Checks.due("a new thrown", x.thrown(f), 0);
            Checks.due("a new isDue", x.isDue(f), false);
            Checks.due("a new nextDue", x.nextDue(f), NONE);
            Checks.due("the rule before", x.give(f, 0), 0);
        }
        for (int h = 0; h < 4; h++) {
            Checks.due("a new holds", x.holds(h), NONE);
            Checks.due("a new shut", x.shut(h), false);
        }
        Checks.due("a new run()", x.run(), 0);
        Checks.due("a new lose", x.lose(4), 0);
    }

    /** No size, weekday or day of the month: nothing is ever due; and no least age for throwing. */
    private static void newRules() {
        for (int r = 0; r < 3; r++) {
            LogTurner x = new LogTurner();
            x.give(1, r);
            x.open(0, 1);
            x.write(0, 1000);
            Checks.due("nextDue under a new rule", x.nextDue(1), NONE);
            x.advance(100);
            Checks.due("isDue under a new rule", x.isDue(1), false);
            Checks.due("run under a new rule", x.run(), 0);
            x.turn(1);
            Checks.due("nobody is told", x.holds(0), 101);
            x.shut(0);
            x.advance(100);
            Checks.due("no greatest age", x.turn(1), 0);
            Checks.due("no dates", x.name(1, 0), 2);
            Checks.due("no squeezing", x.isSqueezed(1, 0), false);
        }
    }

    private static void newKeep() {
        for (int r = 0; r < 3; r++) {
            LogTurner x = new LogTurner();
            x.give(4, r);
            Checks.due("turn 1", x.turn(4), 0);
            Checks.due("turn 2", x.turn(4), 0);
            Checks.due("turn 3", x.turn(4), 0);
            Checks.due("turn 4, of the same day", x.turn(4), 1);
            Checks.due("kept by a new rule", x.olds(4), 3);
        }
    }

    private static void setDueTakesItsEdges() {
        LogTurner x = new LogTurner();
        x.setDue(0, 0, NONE, NONE, 0);
        x.setDue(2, 10000, 6, 29, 100);
        x.open(0, 0);
        x.give(0, 2);
        for (int i = 0; i < 9; i++) {
            x.write(0, 1000);
        }
        x.write(0, 999);
        Checks.due("9999 lines", x.nextDue(0), 6);
        x.write(0, 1);
        Checks.due("10000 lines", x.nextDue(0), 0);
        Checks.due("run()", x.run(), 1);
        x.tell(0);
        x.write(0, 1);
        Checks.due("the least age of 100", x.nextDue(0), 100);
        x.setDue(2, 0, NONE, 29, 0);
        Checks.due("the day 29 of the month", x.nextDue(0), 29);
        x.setDue(2, 0, NONE, 0, 0);
        Checks.due("the day 0 of the month", x.nextDue(0), 30);
        x.setDue(2, 0, 0, NONE, 0);
        Checks.due("the weekday 0", x.nextDue(0), 7);
        x.setDue(2, 1, NONE, NONE, 0);
        Checks.due("the size of 1", x.nextDue(0), 0);
        x.setDue(2, 0, NONE, NONE, 0);
        Checks.due("nothing", x.nextDue(0), NONE);
    }

    private static void setDueSets() {
        LogTurner x = new LogTurner();
        for (int f = 0; f < 3; f++) {
            x.give(f, f);
            x.open(f, f);
            x.write(f, 10);
        }
        x.setDue(1, 10, NONE, NONE, 0);
        Checks.due("the rule 0", x.isDue(0), false);
        Checks.due("the rule 1", x.isDue(1), true);
        Checks.due("the rule 2", x.isDue(2), false);
        x.setDue(1, 11, NONE, NONE, 0);
        Checks.due("set again", x.isDue(1), false);
    }

    private static void setOldTakesItsEdges() {
        LogTurner x = new LogTurner();
        x.setOld(2, 10, 1000, true, true, true);
        x.setOld(0, 10, 0, false, false, false);
        for (int i = 0; i < 11; i++) {
            x.turn(0);
        }
        Checks.due("keep 10", x.olds(0), 10);
        x.setOld(0, 0, 0, false, false, false);
        Checks.due("keep 0", x.turn(0), 11);
        Checks.due("none is left", x.olds(0), 0);
    }

    private static void setOldSets() {
        LogTurner x = new LogTurner();
        x.give(1, 1);
        x.setOld(0, 2, 0, true, false, false);
        x.setOld(1, 5, 10, false, true, true);
        for (int f = 0; f < 2; f++) {
            x.turn(f);
            x.turn(f);
        }
        Checks.due("the rule 0 squeezes", x.isSqueezed(0, 0), true);
        Checks.due("the rule 1 does not", x.isSqueezed(1, 0), false);
        Checks.due("the rule 0 keeps 2", x.turn(0), 1);
        Checks.due("the rule 1 keeps 5", x.turn(1), 0);
        x.advance(11);
        Checks.due("the rule 1 has a greatest age", x.turn(1), 3);
        Checks.due("the rule 1 dates", x.name(1, 0), 11000);
        Checks.due("the rule 0 does not", x.name(0, 0), 2);
        x.setOld(1, 5, 10, false, false, false);
        Checks.due("set again", x.name(1, 0), 1);
    }

    private static void give() {
        LogTurner x = new LogTurner();
        x.setDue(2, 1, NONE, NONE, 0);
        x.open(0, 4);
        x.write(0, 1);
        Checks.due("give(4, 2)", x.give(4, 2), 0);
        Checks.due("due by the new rule", x.isDue(4), true);
        Checks.due("give(4, 1)", x.give(4, 1), 2);
        Checks.due("not due by the next", x.isDue(4), false);
        Checks.due("give(4, 1) again", x.give(4, 1), 1);
        Checks.due("the other files stay", x.give(3, 0), 0);
        x.turn(4);
        x.setOld(1, 3, 0, false, true, false);
        x.advance(3);
        Checks.due("a dated name", x.name(4, 0), 0);
        x.give(4, 0);
        Checks.due("a number by the new rule", x.name(4, 0), 1);
    }
}
