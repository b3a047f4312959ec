import java.util.Random;

/** Runs of 512 calls, drawn from fixed seeds, on the class and on the document said once more. */
public final class RandomRunsTest {

    private static final int RUNS = 1500;
    private static final int CALLS = 512;

    private final Random random;
    private final LogTurner turner = new LogTurner();
    private final PlainTurner plain = new PlainTurner();
    private final int seed;
    private final int greatestStep;

    private RandomRunsTest(int seed) {
        this.seed = seed;
        random = new Random(seed);
        greatestStep = seed % 3 == 0 ? 100 : seed % 3 == 1 ? 10 : 2;
    }

    public static void main(String[] args) {
        for (int seed = 1; seed <= RUNS; seed++) {
            new RandomRunsTest(seed).calls();
        }
        Checks.end();
    }

    private void calls() {
        for (int call = 1; call <= CALLS; call++) {
            String text = "?";
            long[] answers = new long[2];
            switch (random.nextInt(24)) {
                case 0: text = setDue(answers); break;
                case 1: text = setOld(answers); break;
                case 2: text = give(answers); break;
                case 3: case 4: text = open(answers); break;
                case 5: text = shut(answers); break;
                case 6: text = tell(answers); break;
                case 7: case 8: case 9: case 10: text = write(answers); break;
                case 11: case 12: text = advance(answers); break;
                case 13: case 14: text = "run()"; answers[0] = turner.run(); answers[1] = plain.run(); break;
                case 15: text = turn(answers); break;
                case 16: text = lose(answers); break;
                default: text = ask(answers); break;
            }
            Checks.due("seed " + seed + ", call " + call + ", " + text, answers[0], answers[1]);
        }
    }

    /** Mostly within the range, at times one beyond it. */
    private int near(int least, int greatest) {
        if (random.nextInt(40) == 0) {
            return random.nextBoolean() ? least - 1 : greatest + 1;
        }
        return least + random.nextInt(greatest - least + 1);
    }

    private static boolean in(int value, int least, int greatest) {
        return least <= value && value <= greatest;
    }

    /** An exception is told as a number that no call answers. */
    private static long refused(int kind) {
        return -1000 - kind;
    }

    private static long thrown(RuntimeException e) {
        if (!Checks.isThrownByTheClass(e)) {
            return refused(4);
        }
        if (e.getClass() == Checks.INDEX) {
            return refused(1);
        }
        if (e.getClass() == Checks.ARGUMENT) {
            return refused(2);
        }
        return e.getClass() == Checks.STATE ? refused(3) : refused(5);
    }

    private interface Asked {
        long answer();
    }

    private static void both(long[] answers, Asked real, long refusal, Asked due) {
        try {
            answers[0] = real.answer();
        } catch (RuntimeException e) {
            answers[0] = thrown(e);
        }
        answers[1] = refusal != 0 ? refusal : due.answer();
    }

    private static long number(boolean answer) {
        return answer ? 1 : 0;
    }

    private String setDue(long[] answers) {
        int rule = near(0, 2);
        int size = random.nextInt(3) == 0 ? 0 : near(0, random.nextInt(8) == 0 ? 10000 : 1500);
        int weekday = random.nextBoolean() ? -1 : near(-1, 6);
        int monthly = random.nextBoolean() ? -1 : near(-1, 29);
        int least = random.nextInt(3) == 0 ? 0 : near(0, random.nextBoolean() ? 5 : 100);
        boolean right = in(size, 0, 10000) && in(weekday, -1, 6) && in(monthly, -1, 29) && in(least, 0, 100);
        both(answers, () -> {
            turner.setDue(rule, size, weekday, monthly, least);
            return 0;
        }, !in(rule, 0, 2) ? refused(1) : !right ? refused(2) : 0, () -> {
            plain.setDue(rule, size, weekday, monthly, least);
            return 0;
        });
        return "setDue(" + rule + ", " + size + ", " + weekday + ", " + monthly + ", " + least + ")";
    }

    private String setOld(long[] answers) {
        int rule = near(0, 2);
        int keep = near(0, random.nextBoolean() ? 3 : 10);
        int greatest = random.nextBoolean() ? 0 : near(0, random.nextBoolean() ? 12 : 1000);
        boolean squeezes = random.nextBoolean();
        boolean dates = random.nextBoolean();
        boolean tells = random.nextBoolean();
        boolean right = in(keep, 0, 10) && in(greatest, 0, 1000);
        both(answers, () -> {
            turner.setOld(rule, keep, greatest, squeezes, dates, tells);
            return 0;
        }, !in(rule, 0, 2) ? refused(1) : !right ? refused(2) : 0, () -> {
            plain.setOld(rule, keep, greatest, squeezes, dates, tells);
            return 0;
        });
        return "setOld(" + rule + ", " + keep + ", " + greatest + ", " + squeezes + ", " + dates + ", " + tells + ")";
    }

    private String give(long[] answers) {
        int file = near(0, 4);
        int rule = near(0, 2);
        both(answers, () -> turner.give(file, rule), !in(file, 0, 4) || !in(rule, 0, 2) ? refused(1) : 0,
                () -> plain.give(file, rule));
        return "give(" + file + ", " + rule + ")";
    }

    private String open(long[] answers) {
        int holder = near(0, 3);
        int file = near(0, 4);
        both(answers, () -> {
            turner.open(holder, file);
            return 0;
        }, !in(holder, 0, 3) || !in(file, 0, 4) ? refused(1) : 0, () -> {
            plain.open(holder, file);
            return 0;
        });
        return "open(" + holder + ", " + file + ")";
    }

    private String shut(long[] answers) {
        int holder = near(0, 3);
        both(answers, () -> number(turner.shut(holder)), !in(holder, 0, 3) ? refused(1) : 0,
                () -> number(plain.shut(holder)));
        return "shut(" + holder + ")";
    }

    private String tell(long[] answers) {
        int holder = near(0, 3);
        long refusal = !in(holder, 0, 3) ? refused(1) : plain.holdsNothing(holder) ? refused(3) : 0;
        both(answers, () -> number(turner.tell(holder)), refusal, () -> number(plain.tell(holder)));
        return "tell(" + holder + ")";
    }

    private String write(long[] answers) {
        int holder = near(0, 3);
        int lines = near(1, random.nextBoolean() ? 1000 : 10);
        long refusal = !in(holder, 0, 3) ? refused(1) : !in(lines, 1, 1000) ? refused(2)
                : plain.holdsNothing(holder) ? refused(3) : 0;
        both(answers, () -> turner.write(holder, lines), refusal, () -> plain.write(holder, lines));
        return "write(" + holder + ", " + lines + ")";
    }

    private String advance(long[] answers) {
        int days = near(1, greatestStep);
        long refusal = !in(days, 1, 100) ? refused(2) : plain.day() + days > 5000 ? refused(3) : 0;
        both(answers, () -> turner.advance(days), refusal, () -> plain.advance(days));
        return "advance(" + days + ")";
    }

    private String turn(long[] answers) {
        int file = near(0, 4);
        both(answers, () -> turner.turn(file), !in(file, 0, 4) ? refused(1) : 0, () -> plain.turn(file));
        return "turn(" + file + ")";
    }

    private String lose(long[] answers) {
        int file = near(0, 4);
        both(answers, () -> turner.lose(file), !in(file, 0, 4) ? refused(1) : 0, () -> plain.lose(file));
        return "lose(" + file + ")";
    }

    private String ask(long[] answers) {
        int file = near(0, 4);
        int k = near(0, in(file, 0, 4) ? Math.max(0, plain.olds(file) - 1) : 3);
        long noFile = !in(file, 0, 4) ? refused(1) : 0;
        long noPart = noFile != 0 || !in(k, 0, plain.olds(file) - 1) ? refused(1) : 0;
        switch (random.nextInt(10)) {
            case 0:
                both(answers, () -> number(turner.isDue(file)), noFile, () -> number(plain.isDue(file)));
                return "isDue(" + file + ")";
            case 1:
                both(answers, () -> turner.nextDue(file), noFile, () -> plain.nextDue(file));
                return "nextDue(" + file + ")";
            case 2:
                both(answers, () -> turner.live(file), noFile, () -> plain.live(file));
                return "live(" + file + ")";
            case 3:
                both(answers, () -> turner.olds(file), noFile, () -> plain.olds(file));
                return "olds(" + file + ")";
            case 4:
                both(answers, () -> turner.lines(file, k), noPart, () -> plain.lines(file, k));
                return "lines(" + file + ", " + k + ")";
            case 5:
                both(answers, () -> turner.name(file, k), noPart, () -> plain.name(file, k));
                return "name(" + file + ", " + k + ")";
            case 6:
                both(answers, () -> number(turner.isSqueezed(file, k)), noPart,
                        () -> number(plain.isSqueezed(file, k)));
                return "isSqueezed(" + file + ", " + k + ")";
            case 7:
                both(answers, () -> turner.thrown(file), noFile, () -> plain.thrown(file));
                return "thrown(" + file + ")";
            case 8:
                both(answers, () -> turner.day(), 0, () -> plain.day());
                return "day()";
            default:
                int holder = near(0, 3);
                both(answers, () -> turner.holds(holder), !in(holder, 0, 3) ? refused(1) : 0,
                        () -> plain.holds(holder));
                return "holds(" + holder + ")";
        }
    }
}
