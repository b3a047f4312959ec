import java.util.ArrayList;

/**
 * A turner of log files: rules say when a file is turned and what becomes of its old parts; holders
 * write on to the part that they hold until they are told.
 */
public final class LogTurner {

    /** None. */
    public static final int NONE = -1;

    private static final int FILES = 5;
    private static final int RULES = 3;
    private static final int HOLDERS = 4;

    private static final int DAYS_OF_WEEK = 7;
    private static final int DAYS_OF_MONTH = 30;
    private static final int GREATEST_DAY = 5000;
    private static final int DAYS_AHEAD = 200;

    private static final int GREATEST_SIZE = 10000;
    private static final int GREATEST_LEAST_AGE = 100;
    private static final int GREATEST_KEEP = 10;
    private static final int GREATEST_GREATEST_AGE = 1000;
    private static final int GREATEST_WRITE = 1000;
    private static final int GREATEST_ADVANCE = 100;

    private static final int NAME_STEP_OF_DAY = 1000;
    private static final int HOLD_STEP_OF_FILE = 100;

    /** An object serves 512 calls and a call turns a file at most once, so no file ever has more. */
    private static final int GREATEST_OLDS = 512;

    /** When files are due, and what is done with their old parts. */
    private static final class Rule {
        final int number;
        int size;
        int weekday = NONE;
        int monthly = NONE;
        int least;
        int keep = 3;
        int greatest;
        boolean squeezes;
        boolean dates;
        boolean tells;

        Rule(int number) {
            this.number = number;
        }
    }

    /** A part of a file; the day and whether it is squeezed mean nothing while it is the live one. */
    private static final class Part {
        int lineCount;
        int turnDay;
        boolean squeezed;
    }

    /** A file with its live part and its old ones, the oldest one first. */
    private static final class LogFile {
        final int number;
        final ArrayList<Part> oldParts = new ArrayList<>();
        Rule rule;
        Part livePart = new Part();
        int lastTurn;
        /** The last turn is 0 too for a file turned on the day 0, but only that one must wait. */
        boolean everTurned;
        int thrownLines;

        LogFile(int number, Rule rule) {
            this.number = number;
            this.rule = rule;
        }
    }

    /** Both the file and the part are null if it holds nothing, and neither is if it holds a part. */
    private static final class Holder {
        LogFile file;
        Part part;
    }

    private final Rule[] rules = new Rule[RULES];
    private final LogFile[] files = new LogFile[FILES];
    private final Holder[] holders = new Holder[HOLDERS];
    private int today;

    public LogTurner() {
        for (int r = 0; r < RULES; r++) {
            rules[r] = new Rule(r);
        }
        for (int f = 0; f < FILES; f++) {
            files[f] = new LogFile(f, rules[0]);
        }
        for (int h = 0; h < HOLDERS; h++) {
            holders[h] = new Holder();
        }
    }

    // ---- rules

    /** Sets when files of a rule are due. */
    public void setDue(int rule, int size, int weekday, int monthly, int least)
            throws IndexOutOfBoundsException, IllegalArgumentException {
        Rule set = ruleOf(rule);
        requireRange(size, 0, GREATEST_SIZE);
        requireRange(weekday, NONE, DAYS_OF_WEEK - 1);
        requireRange(monthly, NONE, DAYS_OF_MONTH - 1);
        requireRange(least, 0, GREATEST_LEAST_AGE);
        set.size = size;
        set.weekday = weekday;
        set.monthly = monthly;
        set.least = least;
    }

    /** Sets what a rule does with old parts. */
    public void setOld(int rule, int keep, int greatest, boolean squeezes, boolean dates, boolean tells)
            throws IndexOutOfBoundsException, IllegalArgumentException {
        Rule set = ruleOf(rule);
        requireRange(keep, 0, GREATEST_KEEP);
        requireRange(greatest, 0, GREATEST_GREATEST_AGE);
        set.keep = keep;
        set.greatest = greatest;
        set.squeezes = squeezes;
        set.dates = dates;
        set.tells = tells;
    }

    /** Gives a file to a rule; returns the rule before. */
    public int give(int file, int rule) throws IndexOutOfBoundsException {
        LogFile given = fileOf(file);
        Rule taker = ruleOf(rule);
        int before = given.rule.number;
        given.rule = taker;
        return before;
    }

    // ---- holders

    /** A holder opens a file; what it held before it holds no more. */
    public void open(int holder, int file) throws IndexOutOfBoundsException {
        Holder opener = holderOf(holder);
        LogFile opened = fileOf(file);
        opener.file = opened;
        opener.part = opened.livePart;
    }

    /** A holder lets go what it holds; returns whether it held something. */
    public boolean shut(int holder) throws IndexOutOfBoundsException {
        Holder shutter = holderOf(holder);
        boolean held = shutter.part != null;
        shutter.file = null;
        shutter.part = null;
        return held;
    }

    /** Tells a holder; returns whether it held an old part. */
    public boolean tell(int holder) throws IndexOutOfBoundsException, IllegalStateException {
        Holder told = holderOf(holder);
        LogFile file = told.file;
        if (file == null) {
            throw new IllegalStateException("the holder holds nothing");
        }
        boolean heldOld = told.part != file.livePart;
        told.part = file.livePart;
        return heldOld;
    }

    /** A holder writes lines; returns how many lines the part has then. */
    public int write(int holder, int lines)
            throws IndexOutOfBoundsException, IllegalArgumentException, IllegalStateException {
        Part part = holderOf(holder).part;
        requireRange(lines, 1, GREATEST_WRITE);
        if (part == null) {
            throw new IllegalStateException("the holder holds nothing");
        }
        part.lineCount += lines;
        return part.lineCount;
    }

    // ---- days and turns

    /** Lets days pass, without a run; returns the day then. */
    public int advance(int days) throws IllegalArgumentException, IllegalStateException {
        requireRange(days, 1, GREATEST_ADVANCE);
        if (today + days > GREATEST_DAY) {
            throw new IllegalStateException("the day would be above the greatest one");
        }
        today += days;
        return today;
    }

    /** Makes a run; returns which files were turned: the bit f for the file f. */
    public int run() {
        int turned = 0;
        for (int f = 0; f < FILES; f++) {
            if (isDueOn(files[f], today)) {
                turnToday(files[f]);
                turned |= 1 << f;
            }
        }
        for (int r = 0; r < RULES; r++) {
            if (rules[r].tells && hasFileAmong(rules[r], turned)) {
                tellHoldersOf(rules[r]);
            }
        }
        return turned;
    }

    /** Turns a file whether or not it is due; returns how many old parts were thrown away. */
    public int turn(int file) throws IndexOutOfBoundsException {
        return turnToday(fileOf(file));
    }

    /** The state of a file is lost: it counts as turned last today; returns its last turn before. */
    public int lose(int file) throws IndexOutOfBoundsException {
        LogFile lost = fileOf(file);
        int before = lost.lastTurn;
        markTurnedToday(lost);
        return before;
    }

    // ---- what there is

    /** Returns the day. */
    public int day() {
        return today;
    }

    /** Returns whether a file is due today. */
    public boolean isDue(int file) throws IndexOutOfBoundsException {
        return isDueOn(fileOf(file), today);
    }

    /** Returns the next day on which a file would be due, up to 200 days ahead, or NONE. */
    public int nextDue(int file) throws IndexOutOfBoundsException {
        LogFile asked = fileOf(file);
        for (int ahead = 0; ahead <= DAYS_AHEAD; ahead++) {
            if (isDueOn(asked, today + ahead)) {
                return today + ahead;
            }
        }
        return NONE;
    }

    /** Returns the lines of the live part of a file. */
    public int live(int file) throws IndexOutOfBoundsException {
        return fileOf(file).livePart.lineCount;
    }

    /** Returns how many old parts of a file there are. */
    public int olds(int file) throws IndexOutOfBoundsException {
        return fileOf(file).oldParts.size();
    }

    /** Returns the lines of an old part. */
    public int lines(int file, int k) throws IndexOutOfBoundsException {
        return oldPartOf(fileOf(file), k).lineCount;
    }

    /** Returns the name of an old part: a dated one or its number from the latest one. */
    public int name(int file, int k) throws IndexOutOfBoundsException {
        LogFile named = fileOf(file);
        int turnDay = oldPartOf(named, k).turnDay;
        if (!named.rule.dates) {
            return named.oldParts.size() - k;
        }
        return NAME_STEP_OF_DAY * turnDay + countOlderOfDay(named.oldParts, k, turnDay);
    }

    /** Returns whether an old part is squeezed. */
    public boolean isSqueezed(int file, int k) throws IndexOutOfBoundsException {
        return oldPartOf(fileOf(file), k).squeezed;
    }

    /** Returns how many lines of a file were thrown away. */
    public int thrown(int file) throws IndexOutOfBoundsException {
        return fileOf(file).thrownLines;
    }

    /** Returns which part a holder holds, or NONE. */
    public int holds(int holder) throws IndexOutOfBoundsException {
        Holder asked = holderOf(holder);
        LogFile file = asked.file;
        if (file == null) {
            return NONE;
        }
        return HOLD_STEP_OF_FILE * file.number + placeOf(file.oldParts, asked.part);
    }

    // ---- arguments

    private Rule ruleOf(int rule) {
        if (rule < 0 || rule >= RULES) {
            throw new IndexOutOfBoundsException("no such rule");
        }
        return rules[rule];
    }

    private LogFile fileOf(int file) {
        if (file < 0 || file >= FILES) {
            throw new IndexOutOfBoundsException("no such file");
        }
        return files[file];
    }

    private Holder holderOf(int holder) {
        if (holder < 0 || holder >= HOLDERS) {
            throw new IndexOutOfBoundsException("no such holder");
        }
        return holders[holder];
    }

    private static Part oldPartOf(LogFile file, int k) {
        if (k < 0 || k >= file.oldParts.size()) {
            throw new IndexOutOfBoundsException("no such old part");
        }
        return file.oldParts.get(k);
    }

    private static void requireRange(int value, int least, int greatest) {
        if (value < least || value > greatest) {
            throw new IllegalArgumentException("an argument is out of range");
        }
    }

    // ---- when a file is due

    private static boolean isDueOn(LogFile file, int day) {
        Rule rule = file.rule;
        int lineCount = file.livePart.lineCount;
        if (lineCount == 0 || isTooSoon(file, day)) {
            return false;
        }
        boolean isGreatEnough = rule.size != 0 && lineCount >= rule.size;
        return isGreatEnough
                || hasWeekdayCome(rule.weekday, file.lastTurn, day)
                || hasMonthlyCome(rule.monthly, file.lastTurn, day);
    }

    private static boolean isTooSoon(LogFile file, int day) {
        return file.everTurned && day - file.lastTurn < file.rule.least;
    }

    /** The day of the last turn itself does not count, or a file would be turned twice for it. */
    private static boolean hasWeekdayCome(int weekday, int lastTurn, int day) {
        int first = lastTurn + 1;
        return weekday != NONE && first + Math.floorMod(weekday - first, DAYS_OF_WEEK) <= day;
    }

    private static boolean hasMonthlyCome(int monthly, int lastTurn, int day) {
        int first = lastTurn + 1;
        return monthly != NONE && first + Math.floorMod(monthly - first, DAYS_OF_MONTH) <= day;
    }

    // ---- the turn of a file

    /** Returns how many old parts were thrown away. */
    private int turnToday(LogFile file) {
        if (file.oldParts.size() >= GREATEST_OLDS) {
            return 0;
        }
        Part latest = file.livePart;
        latest.turnDay = today;
        file.oldParts.add(latest);
        file.livePart = new Part();
        markTurnedToday(file);
        if (file.rule.squeezes) {
            squeezeOldParts(file.oldParts);
        }
        return throwOldParts(file);
    }

    private void markTurnedToday(LogFile file) {
        file.lastTurn = today;
        file.everTurned = true;
    }

    /** The latest part waits one turn longer: a holder who was not told may still write to it. */
    private void squeezeOldParts(ArrayList<Part> oldParts) {
        for (int k = 0; k < oldParts.size() - 1; k++) {
            Part part = oldParts.get(k);
            if (!isHeld(part)) {
                part.squeezed = true;
            }
        }
    }

    private int throwOldParts(LogFile file) {
        ArrayList<Part> oldParts = file.oldParts;
        int before = oldParts.size();
        int gone = 0;
        for (int k = 0; k < before; k++) {
            Part part = oldParts.get(k - gone);
            if (mustGo(part, file.rule, before - gone)) {
                file.thrownLines += part.lineCount;
                oldParts.remove(k - gone);
                gone++;
            }
        }
        return gone;
    }

    private boolean mustGo(Part part, Rule rule, int there) {
        int age = today - part.turnDay;
        if (age < rule.least || isHeld(part)) {
            return false;
        }
        boolean isTooOld = rule.greatest != 0 && age > rule.greatest;
        return there > rule.keep || isTooOld;
    }

    private boolean isHeld(Part part) {
        for (int h = 0; h < HOLDERS; h++) {
            if (holders[h].part == part) {
                return true;
            }
        }
        return false;
    }

    // ---- the end of a run

    private boolean hasFileAmong(Rule rule, int turned) {
        for (int f = 0; f < FILES; f++) {
            if ((turned >> f & 1) != 0 && files[f].rule == rule) {
                return true;
            }
        }
        return false;
    }

    private void tellHoldersOf(Rule rule) {
        for (int h = 0; h < HOLDERS; h++) {
            LogFile file = holders[h].file;
            if (file != null && file.rule == rule) {
                holders[h].part = file.livePart;
            }
        }
    }

    // ---- names and places

    private static int countOlderOfDay(ArrayList<Part> oldParts, int k, int turnDay) {
        int count = 0;
        for (int i = 0; i < k && i < oldParts.size(); i++) {
            if (oldParts.get(i).turnDay == turnDay) {
                count++;
            }
        }
        return count;
    }

    /** Returns 0 for the live part, which is not among the old ones, or 1 and k for the old part k. */
    private static int placeOf(ArrayList<Part> oldParts, Part part) {
        for (int k = 0; k < oldParts.size(); k++) {
            if (oldParts.get(k) == part) {
                return k + 1;
            }
        }
        return 0;
    }
}
