/** Promises 5 to 8 and 22: open, shut, tell, write, holds. */
public final class HoldersTest {

    private static final int NONE = LogTurner.NONE;

    public static void main(String[] args) {
        open();
        shut();
        tell();
        write();
        holds();
        Checks.end();
    }

    private static void open() {
        LogTurner x = new LogTurner();
        x.open(0, 0);
        Checks.due("holds(0)", x.holds(0), 0);
        x.write(0, 5);
        x.open(3, 4);
        Checks.due("holds(3)", x.holds(3), 400);
        x.open(0, 4);
        Checks.due("the part before is held no more", x.holds(0), 400);
        Checks.due("two write to one part", x.write(0, 6) + x.write(3, 7), 6 + 13);
        Checks.due("live(0)", x.live(0), 5);
        Checks.due("live(4)", x.live(4), 13);
        x.turn(4);
        x.open(0, 4);
        Checks.due("opened again: the live part", x.holds(0), 400);
        Checks.due("the other one holds the old part", x.holds(3), 401);
        x.setOld(0, 0, 0, false, false, false);
        x.open(3, 1);
        Checks.due("an old part held no more can go", x.turn(4), 1);
    }

    private static void shut() {
        LogTurner x = new LogTurner();
        Checks.due("shut of nothing", x.shut(3), false);
        x.open(3, 0);
        x.open(2, 0);
        Checks.due("shut of the live part", x.shut(3), true);
        Checks.due("holds(3)", x.holds(3), NONE);
        Checks.due("holds(2)", x.holds(2), 0);
        Checks.due("shut twice", x.shut(3), false);
        x.setOld(0, 0, 0, false, false, false);
        Checks.due("a held part stays", x.turn(0), 0);
        Checks.due("shut of an old part", x.shut(2), true);
        Checks.due("it goes with the next turn", x.turn(0), 2);
    }

    private static void tell() {
        LogTurner x = new LogTurner();
        x.open(0, 3);
        x.open(1, 3);
        Checks.due("told at the live part", x.tell(0), false);
        x.turn(3);
        x.turn(3);
        Checks.due("told at an old part", x.tell(0), true);
        Checks.due("holds(0)", x.holds(0), 300);
        Checks.due("the other one is not told", x.holds(1), 301);
        Checks.due("told twice", x.tell(0), false);
        x.write(0, 9);
        Checks.due("live(3)", x.live(3), 9);
    }

    private static void write() {
        LogTurner x = new LogTurner();
        x.open(0, 2);
        Checks.due("write(0, 1)", x.write(0, 1), 1);
        Checks.due("write(0, 1000)", x.write(0, 1000), 1001);
        x.turn(2);
        Checks.due("to the old part", x.write(0, 4), 1005);
        Checks.due("lines(2, 0)", x.lines(2, 0), 1005);
        Checks.due("live(2)", x.live(2), 0);
        x.tell(0);
        Checks.due("to the new part", x.write(0, 8), 8);
        Checks.due("lines(2, 0)", x.lines(2, 0), 1005);
    }

    private static void holds() {
        LogTurner x = new LogTurner();
        Checks.due("holds nothing", x.holds(0), NONE);
        for (int h = 0; h < 4; h++) {
            x.open(h, 2);
            x.turn(2);
        }
        Checks.due("the oldest", x.holds(0), 201);
        Checks.due("the latest", x.holds(3), 204);
        x.setOld(0, 0, 0, false, false, false);
        x.shut(1);
        Checks.due("one held by nobody goes, and the latest", x.turn(2), 2);
        Checks.due("the oldest", x.holds(0), 201);
        Checks.due("the next", x.holds(2), 202);
        Checks.due("the next", x.holds(3), 203);
        x.tell(2);
        Checks.due("the live part", x.holds(2), 200);
    }
}
