/**
 * Promises 1 to 4: a test of its own for each argument's range and each refusal, with the value at
 * the edge, the one beside it that is taken too, and the one beyond it.
 */
public final class EdgesOfRulesTest {

    private static final int NONE = LogTurner.NONE;
    private static final int MIN = Integer.MIN_VALUE;
    private static final int MAX = Integer.MAX_VALUE;

    public static void main(String[] args) {
        newRuleNeitherSqueezesNorDatesNorTells();
        newRuleHasNoGreatestAge();
        newRuleHasALeastAgeOfZero();
        setDueOfEachRule();
        setDueSizes();
        setDueWeekdays();
        setDueDaysOfTheMonth();
        setDueLeastAges();
        setDueReplacesAll();
        setDueRefusesRules();
        setDueRefusesOthers();
        setDueRefusesTheRuleFirst();
        setOldOfEachRule();
        setOldKeeps();
        setOldGreatestAges();
        setOldSwitches();
        setOldRefusesRules();
        setOldRefusesOthers();
        setOldRefusesTheRuleFirst();
        giveReturnsTheRuleBefore();
        giveChangesNothingElse();
        giveRefuses();
        Checks.end();
    }

    /** The file 0 belongs to the rule and was turned on the day 0; the holder 0 holds it, with 1 line. */
    private static LogTurner turnedUnder(int rule) {
        LogTurner x = new LogTurner();
        x.give(0, rule);
        Steps.turnAndWrite(x, 0, 0, 1);
        return x;
    }

    // ---- promise 1

    private static void newRuleNeitherSqueezesNorDatesNorTells() {
        for (int rule = 0; rule < 3; rule++) {
            LogTurner x = turnedUnder(rule);
            x.setDue(rule, 1, NONE, NONE, 0);
            x.advance(1);
            Checks.due("run()", x.run(), 1);
            Checks.due("does not squeeze, the rule " + rule, x.isSqueezed(0, 0), false);
            Checks.due("does not date, the rule " + rule, x.name(0, 1), 1);
            Checks.due("does not tell, the rule " + rule, x.holds(0), 2);
        }
    }

    private static void newRuleHasNoGreatestAge() {
        for (int rule = 0; rule < 3; rule++) {
            LogTurner x = turnedUnder(rule);
            Steps.pass(x, 5000);
            Checks.due("a part of the day 0, the rule " + rule, x.turn(0), 0);
        }
    }

    /** It shows in that the fourth part of a day is thrown away at once. */
    private static void newRuleHasALeastAgeOfZero() {
        for (int rule = 0; rule < 3; rule++) {
            LogTurner x = turnedUnder(rule);
            Checks.due("two are kept, the rule " + rule, x.turn(0), 0);
            x.shut(0);
            Checks.due("three are kept, the rule " + rule, x.turn(0), 0);
            Checks.due("the fourth is not, the rule " + rule, x.turn(0), 1);
        }
    }

    // ---- promise 2

    /** "rule: 0 to 2" */
    private static void setDueOfEachRule() {
        for (int set = 0; set < 3; set++) {
            LogTurner x = new LogTurner();
            x.setDue(set, 1, NONE, NONE, 0);
            for (int rule = 0; rule < 3; rule++) {
                x.give(rule, rule);
                x.open(0, rule);
                x.write(0, 1);
                Checks.due("setDue of " + set + ", due by " + rule, x.isDue(rule), rule == set);
            }
        }
    }

    /** "size: 0 to 10000" */
    private static void setDueSizes() {
        for (int rule = 0; rule < 3; rule++) {
            for (int size : new int[] {0, 1, 2, 9999, 10000}) {
                LogTurner x = new LogTurner();
                x.give(0, rule);
                x.setDue(rule, size, NONE, NONE, 0);
                x.open(0, 0);
                Steps.write(x, 0, size - 1);
                Checks.due("the size " + size + ", fewer lines", x.isDue(0), false);
                x.write(0, 1);
                Checks.due("the size " + size + ", as many lines or 1", x.isDue(0), size != 0);
            }
        }
    }

    /** "weekday: 0 to 6, or NONE" */
    private static void setDueWeekdays() {
        for (int rule = 0; rule < 3; rule++) {
            for (int weekday = NONE; weekday <= 6; weekday++) {
                LogTurner x = turnedUnder(rule);
                x.setDue(rule, 0, weekday, NONE, 0);
                int due = weekday == NONE ? NONE : weekday == 0 ? 7 : weekday;
                Checks.due("the weekday " + weekday, x.nextDue(0), due);
            }
        }
    }

    /** "monthly: 0 to 29, or NONE" */
    private static void setDueDaysOfTheMonth() {
        for (int rule = 0; rule < 3; rule++) {
            for (int monthly = NONE; monthly <= 29; monthly++) {
                LogTurner x = turnedUnder(rule);
                x.setDue(rule, 0, NONE, monthly, 0);
                int due = monthly == NONE ? NONE : monthly == 0 ? 30 : monthly;
                Checks.due("the day of the month " + monthly, x.nextDue(0), due);
            }
        }
    }

    /** "least: 0 to 100" */
    private static void setDueLeastAges() {
        for (int rule = 0; rule < 3; rule++) {
            for (int least = 0; least <= 100; least++) {
                LogTurner x = turnedUnder(rule);
                x.setDue(rule, 1, NONE, NONE, least);
                Checks.due("the least age " + least, x.nextDue(0), least);
            }
        }
    }

    private static void setDueReplacesAll() {
        LogTurner x = turnedUnder(1);
        x.setDue(1, 1, 2, 2, 3);
        Checks.due("the one before", x.nextDue(0), 3);
        x.setDue(1, 2, 6, 5, 0);
        Checks.due("the size, and the least age, are no more", x.nextDue(0), 5);
        x.setDue(1, 0, 6, NONE, 0);
        Checks.due("the day of the month is no more", x.nextDue(0), 6);
        x.setDue(1, 0, NONE, 9, 0);
        Checks.due("the weekday is no more", x.nextDue(0), 9);
        x.setDue(1, 0, NONE, NONE, 0);
        Checks.due("nothing is any more", x.nextDue(0), NONE);
    }

    /** Each rule has terms of its own; files of each rule have lines and old parts. */
    private static LogTurner settled() {
        LogTurner x = new LogTurner();
        for (int rule = 0; rule < 3; rule++) {
            x.setDue(rule, 400 + 50 * rule, 3 + rule, 20 + rule, 2 + rule);
            x.setOld(rule, 2 + rule, 5 + rule, rule == 1, rule == 2, rule == 0);
            x.give(rule, rule);
            x.turn(rule);
            x.open(rule, rule);
            x.write(rule, 30);
        }
        x.advance(1);
        x.turn(1);
        return x;
    }

    private static void refuses(String what, Class<? extends RuntimeException> want, Checks.Call call) {
        Checks.dueThrows(what, want, EdgesOfRulesTest::settled, call);
    }

    /** "IndexOutOfBoundsException if there is no such rule" */
    private static void setDueRefusesRules() {
        for (int rule : new int[] {-1, 3, -2, 4, MIN, MAX}) {
            refuses("setDue of " + rule, Checks.INDEX, x -> x.setDue(rule, 1, 1, 1, 0));
        }
    }

    /** "IllegalArgumentException if another argument is out of range" */
    private static void setDueRefusesOthers() {
        for (int r = 0; r < 3; r++) {
            int rule = r;
            for (int size : new int[] {-1, 10001, MIN, MAX}) {
                refuses("the size " + size, Checks.ARGUMENT, x -> x.setDue(rule, size, 1, 1, 0));
            }
            for (int weekday : new int[] {-2, 7, MIN, MAX}) {
                refuses("the weekday " + weekday, Checks.ARGUMENT, x -> x.setDue(rule, 1, weekday, 1, 0));
            }
            for (int monthly : new int[] {-2, 30, MIN, MAX}) {
                refuses("the day of the month " + monthly, Checks.ARGUMENT, x -> x.setDue(rule, 1, 1, monthly, 0));
            }
            for (int least : new int[] {-1, 101, MIN, MAX}) {
                refuses("the least age " + least, Checks.ARGUMENT, x -> x.setDue(rule, 1, 1, 1, least));
            }
        }
    }

    private static void setDueRefusesTheRuleFirst() {
        for (int rule : new int[] {-1, 3}) {
            refuses("no rule, no size", Checks.INDEX, x -> x.setDue(rule, -1, 1, 1, 0));
            refuses("no rule, no size", Checks.INDEX, x -> x.setDue(rule, 10001, 1, 1, 0));
            refuses("no rule, no weekday", Checks.INDEX, x -> x.setDue(rule, 1, -2, 1, 0));
            refuses("no rule, no weekday", Checks.INDEX, x -> x.setDue(rule, 1, 7, 1, 0));
            refuses("no rule, no day of the month", Checks.INDEX, x -> x.setDue(rule, 1, 1, -2, 0));
            refuses("no rule, no day of the month", Checks.INDEX, x -> x.setDue(rule, 1, 1, 30, 0));
            refuses("no rule, no least age", Checks.INDEX, x -> x.setDue(rule, 1, 1, 1, -1));
            refuses("no rule, no least age", Checks.INDEX, x -> x.setDue(rule, 1, 1, 1, 101));
        }
    }

    // ---- promise 3

    private static void setOldOfEachRule() {
        for (int set = 0; set < 3; set++) {
            LogTurner x = new LogTurner();
            x.setOld(set, 1, 0, true, true, true);
            x.advance(4);
            for (int rule = 0; rule < 3; rule++) {
                x.give(rule, rule);
                x.turn(rule);
                Checks.due("setOld of " + set + ", kept by " + rule, x.turn(rule), rule == set ? 1 : 0);
                Checks.due("setOld of " + set + ", dated by " + rule, x.name(rule, 0), rule == set ? 4000 : 2);
            }
        }
    }

    /** "keep: 0 to 10" */
    private static void setOldKeeps() {
        for (int rule = 0; rule < 3; rule++) {
            for (int keep = 0; keep <= 10; keep++) {
                LogTurner x = new LogTurner();
                x.give(0, rule);
                x.setOld(rule, keep, 0, false, false, false);
                for (int turn = 1; turn <= keep; turn++) {
                    Checks.due("keep " + keep + ", turn " + turn, x.turn(0), 0);
                }
                Checks.due("keep " + keep + ", one turn more", x.turn(0), 1);
                Checks.due("keep " + keep + ", there", x.olds(0), keep);
            }
        }
    }

    /** "greatest: 0 to 1000" */
    private static void setOldGreatestAges() {
        for (int rule = 0; rule < 3; rule++) {
            for (int greatest : new int[] {0, 1, 2, 999, 1000}) {
                LogTurner x = new LogTurner();
                x.give(0, rule);
                x.setOld(rule, 10, greatest, false, false, false);
                x.turn(0);
                Steps.pass(x, greatest);
                Checks.due("of the greatest age " + greatest, x.turn(0), 0);
                x.advance(1);
                Checks.due("above the greatest age " + greatest, x.turn(0), greatest == 0 ? 0 : 1);
            }
        }
    }

    /** "whether it squeezes", "whether it dates", "whether it tells": each one apart from the others. */
    private static void setOldSwitches() {
        for (int rule = 0; rule < 3; rule++) {
            for (int on = 0; on < 8; on++) {
                boolean squeezes = (on & 1) != 0;
                boolean dates = (on & 2) != 0;
                boolean tells = (on & 4) != 0;
                LogTurner x = new LogTurner();
                x.give(0, rule);
                x.setDue(rule, 1, NONE, NONE, 0);
                x.setOld(rule, 10, 0, !squeezes, !dates, !tells);
                x.setOld(rule, 10, 0, squeezes, dates, tells);
                x.turn(0);
                x.open(0, 0);
                x.write(0, 1);
                Checks.due("run()", x.run(), 1);
                Checks.due("squeezes by " + on, x.isSqueezed(0, 0), squeezes);
                Checks.due("dates by " + on, x.name(0, 0), dates ? 0 : 2);
                Checks.due("tells by " + on, x.holds(0), tells ? 0 : 2);
            }
        }
    }

    /** "IndexOutOfBoundsException if there is no such rule" */
    private static void setOldRefusesRules() {
        for (int rule : new int[] {-1, 3, -2, 4, MIN, MAX}) {
            refuses("setOld of " + rule, Checks.INDEX, x -> x.setOld(rule, 1, 1, true, true, true));
            refuses("setOld of " + rule, Checks.INDEX, x -> x.setOld(rule, 1, 1, false, false, false));
        }
    }

    /** "IllegalArgumentException if keep or greatest is out of range" */
    private static void setOldRefusesOthers() {
        for (int r = 0; r < 3; r++) {
            int rule = r;
            for (int keep : new int[] {-1, 11, MIN, MAX}) {
                refuses("keep " + keep, Checks.ARGUMENT, x -> x.setOld(rule, keep, 1, true, true, true));
                refuses("keep " + keep, Checks.ARGUMENT, x -> x.setOld(rule, keep, 1, false, false, false));
            }
            for (int greatest : new int[] {-1, 1001, MIN, MAX}) {
                refuses("greatest " + greatest, Checks.ARGUMENT, x -> x.setOld(rule, 0, greatest, true, true, true));
                refuses("greatest " + greatest, Checks.ARGUMENT, x -> x.setOld(rule, 9, greatest, false, false, false));
            }
        }
    }

    private static void setOldRefusesTheRuleFirst() {
        for (int rule : new int[] {-1, 3}) {
            refuses("no rule, no keep", Checks.INDEX, x -> x.setOld(rule, -1, 1, true, true, true));
            refuses("no rule, no keep", Checks.INDEX, x -> x.setOld(rule, 11, 1, true, true, true));
            refuses("no rule, no greatest", Checks.INDEX, x -> x.setOld(rule, 1, -1, true, true, true));
            refuses("no rule, no greatest", Checks.INDEX, x -> x.setOld(rule, 1, 1001, true, true, true));
        }
    }

    // ---- promise 4

    /** "file: 0 to 4", "rule: 0 to 2", "Returns the rule before." */
    private static void giveReturnsTheRuleBefore() {
        for (int file = 0; file < 5; file++) {
            LogTurner x = new LogTurner();
            int before = 0;
            for (int rule : new int[] {0, 1, 1, 2, 2, 0, 2, 1, 0}) {
                Checks.due("give(" + file + ", " + rule + ")", x.give(file, rule), before);
                before = rule;
            }
            x.give(file, 2);
            for (int other = 0; other < 5; other++) {
                Checks.due("the rule of " + other, x.give(other, 1), other == file ? 2 : 0);
            }
        }
    }

    private static void giveChangesNothingElse() {
        LogTurner x = new LogTurner();
        x.setOld(0, 3, 0, true, false, false);
        x.setOld(1, 0, 1, false, true, true);
        x.open(0, 2);
        x.write(0, 3);
        x.advance(3);
        x.turn(2);
        x.turn(2);
        x.shut(0);
        x.turn(2);
        x.advance(50);
        Checks.due("give(2, 1)", x.give(2, 1), 0);
        Checks.due("its old parts", x.olds(2), 3);
        Checks.due("squeezed", x.isSqueezed(2, 1), true);
        Checks.due("the latest one", x.isSqueezed(2, 2), false);
        Checks.due("its lines", x.lines(2, 0), 3);
        Checks.due("nothing is thrown away", x.thrown(2), 0);
        Checks.due("its last turn", x.lose(2), 3);
        LogTurner turned = turnedUnder(0);
        turned.setDue(1, 1, NONE, NONE, 40);
        turned.give(0, 1);
        Checks.due("it was turned, whatever the rule then", turned.nextDue(0), 40);
        LogTurner never = new LogTurner();
        never.setDue(1, 1, NONE, NONE, 40);
        never.open(0, 0);
        never.write(0, 1);
        never.give(0, 1);
        Checks.due("it never was, whatever the rule then", never.nextDue(0), 0);
    }

    /** "IndexOutOfBoundsException if there is no such file or rule" */
    private static void giveRefuses() {
        for (int none : new int[] {-1, MIN, MAX}) {
            refuses("give of the file " + none, Checks.INDEX, x -> x.give(none, 1));
            refuses("give to the rule " + none, Checks.INDEX, x -> x.give(0, none));
            refuses("give of neither " + none, Checks.INDEX, x -> x.give(none, none));
        }
        refuses("give of the file 5", Checks.INDEX, x -> x.give(5, 1));
        refuses("give to the rule 3", Checks.INDEX, x -> x.give(0, 3));
        refuses("give to the rule 3 of the file 4", Checks.INDEX, x -> x.give(4, 3));
        refuses("give of the file 5 to the rule 3", Checks.INDEX, x -> x.give(5, 3));
    }
}
