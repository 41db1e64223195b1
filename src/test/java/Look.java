import java.util.ArrayList;
import java.util.List;

/**
 * What can be asked of an object, as one row of answers: of all that it holds something (the FILMS to COLUMN
 * 39, the RULE by some records). An object is used for 512 calls at most, so each part of the row is asked of
 * a twin that is made anew by the same calls (300 at most).
 */
final class Look {
    private static final int PART = 200;
    private static final List<Call> QUIET = quiet();
    /** In this order, and of a twin of their own. */
    private static final List<Call> CHANGING = changing();

    private Look() {
    }

    static long[] at(Script twins) {
        long[] answers = new long[size()];
        HairLine x = twins.play();
        for (int i = 0; i < answers.length; i++) {
            if (i == QUIET.size() || i < QUIET.size() && i % PART == 0) {
                x = twins.play();
            }
            answers[i] = question(i).on(x);
        }
        return answers;
    }

    static int size() {
        return QUIET.size() + CHANGING.size();
    }

    static Call question(int i) {
        return i < QUIET.size() ? QUIET.get(i) : CHANGING.get(i - QUIET.size());
    }

    /** The first question that the two rows answer otherwise; -1: none. */
    static int apart(long[] one, long[] other) {
        for (int i = 0; i < one.length; i++) {
            if (one[i] != other[i]) {
                return i;
            }
        }
        return -1;
    }

    private static List<Call> quiet() {
        List<Call> all = new ArrayList<>();
        askRunners(all);
        askFilms(all);
        askJudges(all);
        askSlits(all);
        for (int what : new int[] {0, 1, 2, 3, 10, 11, 12, 13}) {
            all.add(new Call("told", what));
        }
        all.add(new Call("fault"));
        askRecords(all);
        return all;
    }

    /** What only a call that changes something tells: pushes, told times, which signs there are. */
    private static List<Call> changing() {
        List<Call> all = new ArrayList<>();
        for (int runner = 0; runner < 6; runner++) {
            all.add(new Call("push", runner, -1));
        }
        for (int judge = 0; judge < 4; judge++) {
            all.add(new Call("tell", judge, -1));
        }
        all.add(new Call("rule"));
        askRecords(all);
        // signs that end too early are a RULE with one more
        all.add(new Call("say", '0'));
        all.add(new Call("rule"));
        askRecords(all);
        all.add(new Call("wipe"));
        all.add(new Call("runner", -10, 1));
        all.add(new Call("slit", 0, 63));
        return all;
    }

    private static void askRunners(List<Call> all) {
        for (int runner = 0; runner < 6; runner++) {
            for (int what = 0; what < 8; what++) {
                all.add(new Call("of", runner, what));
            }
            for (int row = 0; row < 6; row++) {
                all.add(new Call("stretch", runner, row));
            }
            all.add(new Call("place", runner, 0));
            all.add(new Call("place", runner, 1));
            all.add(new Call("mended", runner));
        }
        for (int i = -1; i < 6; i++) {
            all.add(new Call("order", i));
        }
        for (int i = -1; i < 15; i++) {
            all.add(new Call("moved", i));
        }
        all.add(new Call("wrong", 90, 119, 1, 0));
    }

    private static void askFilms(List<Call> all) {
        for (int side = 0; side < 2; side++) {
            for (int row = 0; row < 6; row++) {
                for (int column = 0; column < 40; column++) {
                    all.add(new Call("shows", side, column, row));
                }
            }
        }
    }

    private static void askJudges(List<Call> all) {
        for (int judge = 0; judge < 4; judge++) {
            all.add(new Call("late", judge, 0));
            all.add(new Call("late", judge, 1));
        }
        all.add(new Call("time", 0));
        all.add(new Call("time", 1));
        all.add(new Call("old", 1000));
    }

    private static void askSlits(List<Call> all) {
        for (int slit = 0; slit < 8; slit++) {
            all.add(new Call("seen", 1 << slit, 0));
            all.add(new Call("seen", 1 << slit, 1));
        }
        for (int k = 0; k <= 8; k++) {
            all.add(new Call("best", k, 0));
            all.add(new Call("best", k, 1));
        }
    }

    private static void askRecords(List<Call> all) {
        int[][] facts = {{0, 0, 0, 0}, {1, 0, 0, 0}, {999, 20, 0, 0}, {1000, 20, 0, 0}, {999, 21, 0, 0},
            {999, 20, 0, 1}, {999, 20, 9, 0}, {-9999, -9999, -9999, 0}, {9999, 9999, 9999, 1}};
        for (int[] f : facts) {
            all.add(new Call("record", f[0], f[1], f[2], f[3]));
        }
    }
}
