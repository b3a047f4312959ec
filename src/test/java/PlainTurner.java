import java.util.ArrayList;
import java.util.List;

/**
 * The document once more, as literally as it can be said and with another state: all parts of all
 * files stand in one list, and the days are gone through one by one. For valid arguments alone.
 */
final class PlainTurner {

    private static final class Piece {
        final int file;
        final int madeAt;
        boolean old;
        int day;
        int lines;
        boolean squeezed;

        Piece(int file, int madeAt) {
            this.file = file;
            this.madeAt = madeAt;
        }
    }

    private static final class Terms {
        int size = 0;
        int weekday = -1;
        int monthly = -1;
        int least = 0;
        int keep = 3;
        int greatest = 0;
        boolean squeezes;
        boolean dates;
        boolean tells;
    }

    private final List<Piece> pieces = new ArrayList<>();
    private final Terms[] terms = {new Terms(), new Terms(), new Terms()};
    private final int[] ruleOf = new int[5];
    private final Integer[] lastTurnOf = new Integer[5];
    private final int[] thrownOf = new int[5];
    private final Piece[] held = new Piece[4];
    private int made = 0;
    private int day = 0;

    PlainTurner() {
        for (int f = 0; f < 5; f++) {
            pieces.add(new Piece(f, made++));
        }
    }

    void setDue(int rule, int size, int weekday, int monthly, int least) {
        terms[rule].size = size;
        terms[rule].weekday = weekday;
        terms[rule].monthly = monthly;
        terms[rule].least = least;
    }

    void setOld(int rule, int keep, int greatest, boolean squeezes, boolean dates, boolean tells) {
        terms[rule].keep = keep;
        terms[rule].greatest = greatest;
        terms[rule].squeezes = squeezes;
        terms[rule].dates = dates;
        terms[rule].tells = tells;
    }

    int give(int file, int rule) {
        int before = ruleOf[file];
        ruleOf[file] = rule;
        return before;
    }

    void open(int holder, int file) {
        held[holder] = livePiece(file);
    }

    boolean shut(int holder) {
        boolean something = held[holder] != null;
        held[holder] = null;
        return something;
    }

    boolean holdsNothing(int holder) {
        return held[holder] == null;
    }

    boolean tell(int holder) {
        boolean wasOld = held[holder].old;
        held[holder] = livePiece(held[holder].file);
        return wasOld;
    }

    int write(int holder, int lines) {
        return held[holder].lines += lines;
    }

    int advance(int days) {
        return day += days;
    }

    int run() {
        int bits = 0;
        boolean[] turnedRule = new boolean[3];
        for (int f = 0; f < 5; f++) {
            if (dueOn(f, day)) {
                turn(f);
                bits += (int) Math.pow(2, f);
                turnedRule[ruleOf[f]] = true;
            }
        }
        for (int r = 0; r < 3; r++) {
            for (int h = 0; h < 4; h++) {
                if (turnedRule[r] && terms[r].tells && held[h] != null && ruleOf[held[h].file] == r) {
                    tell(h);
                }
            }
        }
        return bits;
    }

    int turn(int file) {
        Piece piece = livePiece(file);
        piece.old = true;
        piece.day = day;
        pieces.add(new Piece(file, made++));
        lastTurnOf[file] = day;
        Terms rule = terms[ruleOf[file]];
        for (Piece each : oldPieces(file)) {
            if (rule.squeezes && !each.squeezed && each != piece && !isHeld(each)) {
                each.squeezed = true;
            }
        }
        int gone = 0;
        for (Piece each : oldPieces(file)) {
            int age = day - each.day;
            boolean tooMany = oldPieces(file).size() > rule.keep;
            boolean tooOld = rule.greatest > 0 && age > rule.greatest;
            if (!isHeld(each) && !(age < rule.least) && (tooMany || tooOld)) {
                pieces.remove(each);
                thrownOf[file] += each.lines;
                gone++;
            }
        }
        return gone;
    }

    int lose(int file) {
        int before = lastTurnOf[file] == null ? 0 : lastTurnOf[file];
        lastTurnOf[file] = day;
        return before;
    }

    int day() {
        return day;
    }

    boolean isDue(int file) {
        return dueOn(file, day);
    }

    int nextDue(int file) {
        int next = day;
        while (next <= day + 200 && !dueOn(file, next)) {
            next++;
        }
        return next <= day + 200 ? next : -1;
    }

    int live(int file) {
        return livePiece(file).lines;
    }

    int olds(int file) {
        return oldPieces(file).size();
    }

    int lines(int file, int k) {
        return oldPieces(file).get(k).lines;
    }

    int name(int file, int k) {
        List<Piece> olds = oldPieces(file);
        if (!terms[ruleOf[file]].dates) {
            int name = 1;
            for (int i = olds.size() - 1; i > k; i--) {
                name++;
            }
            return name;
        }
        int name = 1000 * olds.get(k).day;
        for (Piece each : olds) {
            if (each.madeAt < olds.get(k).madeAt && each.day == olds.get(k).day) {
                name++;
            }
        }
        return name;
    }

    boolean isSqueezed(int file, int k) {
        return oldPieces(file).get(k).squeezed;
    }

    int thrown(int file) {
        return thrownOf[file];
    }

    int holds(int holder) {
        Piece piece = held[holder];
        if (piece == null) {
            return -1;
        }
        return 100 * piece.file + (piece.old ? 1 + oldPieces(piece.file).indexOf(piece) : 0);
    }

    private Piece livePiece(int file) {
        for (Piece piece : pieces) {
            if (piece.file == file && !piece.old) {
                return piece;
            }
        }
        throw new AssertionError("every file has a live part");
    }

    private List<Piece> oldPieces(int file) {
        List<Piece> olds = new ArrayList<>();
        for (Piece piece : pieces) {
            if (piece.file == file && piece.old) {
                olds.add(piece);
            }
        }
        return olds;
    }

    private boolean isHeld(Piece piece) {
        return held[0] == piece || held[1] == piece || held[2] == piece || held[3] == piece;
    }

    private boolean dueOn(int file, int onDay) {
        Terms rule = terms[ruleOf[file]];
        int lines = live(file);
        Integer last = lastTurnOf[file];
        if (lines == 0 || last != null && onDay - last < rule.least) {
            return false;
        }
        boolean due = rule.size > 0 && lines >= rule.size;
        for (int d = (last == null ? 0 : last) + 1; d <= onDay; d++) {
            due |= d % 7 == rule.weekday || d % 30 == rule.monthly;
        }
        return due;
    }
}
