/** Many small calls that only together make one step of a test. */
final class Steps {

    private Steps() {
    }

    /** One call takes at most 1000 lines. */
    static void write(LogTurner turner, int holder, int lines) {
        for (int left = lines; left > 0; left -= 1000) {
            turner.write(holder, Math.min(left, 1000));
        }
    }

    /** One call takes at most 100 days. */
    static void pass(LogTurner turner, int days) {
        for (int left = days; left > 0; left -= 100) {
            turner.advance(Math.min(left, 100));
        }
    }

    /** The holder goes on in the new live part. */
    static void turnAndWrite(LogTurner turner, int file, int holder, int lines) {
        turner.turn(file);
        turner.open(holder, file);
        write(turner, holder, lines);
    }

    static LogTurner onDay(int day) {
        LogTurner turner = new LogTurner();
        pass(turner, day);
        return turner;
    }
}
