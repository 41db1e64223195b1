/** Promises 25 to 28: slit, seen, best, told. */
public final class SlitsTest {
    private static final Check CHECK = new Check("slits");
    private static final int MIN = Integer.MIN_VALUE;
    private static final int MAX = Integer.MAX_VALUE;

    public static void main(String[] args) {
        slit();
        seen();
        seenOnlyWhereBothFit();
        seenAtLean();
        seenBeyondTheFilm();
        untoldWithoutTorsos();
        seenRefused();
        best();
        bestOfLikes();
        bestRefused();
        told();
        CHECK.end();
    }

    private static void due(String call, long got, long want) {
        CHECK.due(call, got, want);
    }

    private static void slit() {
        HairLine x = new HairLine();
        int[][] wrong = {{2, 1}, {-1, 1}, {0, 0}, {0, 64}, {0, -1}, {MIN, 1}, {MAX, 1}, {0, MIN}, {0, MAX}};
        for (int[] w : wrong) {
            due("slit wrong", x.slit(w[0], w[1]), HairLine.OUTSIDE);
        }
        due("none came of it", x.told(1), 0);
        for (int i = 0; i < 8; i++) {
            due("slit " + i, x.slit(i % 2, i == 0 ? 1 : 63), i);
        }
        due("a ninth", x.slit(0, 1), HairLine.FULL);
        due("a ninth that is wrong", x.slit(0, 64), HairLine.OUTSIDE);
        due("told(1)", x.told(1), 8);
        due("all of them", x.seen(255, 0), 0);
        due("one beyond", x.seen(256, 0), HairLine.OUTSIDE);
    }

    /** Lane 0 hides lane 1's first columns from side 0, lane 2 those of row 1 from side 1. */
    private static HairLine three() {
        HairLine x = new HairLine();
        for (int lane = 0; lane < 3; lane++) {
            x.runner(-20, 1);
        }
        x.shape(0, 0, 0, -2, 2);
        x.shape(1, 0, 0, -5, 2);
        x.shape(1, 1, 0, -5, 2);
        x.shape(2, 1, 1, -2, 2);
        x.shape(2, 5, 0, 3, 3);
        return x;
    }

    private static void seen() {
        HairLine x = three();
        due("side 0, row 0", x.slit(0, 1), 0);
        due("side 1, row 0", x.slit(1, 1), 1);
        due("side 0, row 1", x.slit(0, 2), 2);
        due("side 1, row 1", x.slit(1, 2), 3);
        due("side 1, row 5", x.slit(1, 32), 4);
        int[] lanes = {1, 2, 2, 0, 4};
        for (int i = 0; i < 5; i++) {
            due("by slit " + i, x.seen(1 << i, 0), lanes[i]);
        }
        due("by none", x.seen(0, 0), 0);
        due("none: three pairs", x.seen(0, 1), 3);
        due("one seen: three pairs", x.seen(1, 1), 3);
        due("two seen: two pairs", x.seen(3, 1), 2);
        due("all seen", x.seen(31, 0), 7);
        due("all seen: no pair", x.seen(31, 1), 0);
        due("0, 2, 4", x.seen(1 | 4 | 16, 0), 7);
        due("0, 3, 4", x.seen(1 | 8 | 16, 0), 5);
    }

    private static void seenOnlyWhereBothFit() {
        HairLine x = three();
        // rows and sides of two slits are not mixed: side 1 with row 0 would see lane 1
        x.slit(0, 1);
        x.slit(1, 2);
        due("not mixed", x.seen(3, 0), 1);
        x.slit(1, 3);
        due("rows 0 and 1 in one", x.seen(4, 0), 2);
        x.slit(0, 63);
        due("all rows of side 0", x.seen(8, 0), 7);
        // a row that comes later than LEANED sees nothing of its runner
        x.shape(2, 0, 0, 2, 2);
        due("leaned stays", x.of(2, 4), 17);
        x.slit(1, 1);
        due("its torso in row 0 is late, and hides", x.seen(16, 0), 0);
    }

    private static void seenAtLean() {
        HairLine x = new HairLine();
        x.runner(-20, 1);
        x.shape(0, 0, 0, 0, 0);
        x.shape(0, 5, 0, 0, 0);
        x.slit(0, 1);
        x.slit(0, 32);
        due("upright", x.seen(1, 0), 1);
        due("upright", x.seen(2, 0), 1);
        x.set(0, 1);
        due("row 0 is first", x.seen(1, 0), 1);
        due("row 5 is late", x.seen(2, 0), 0);
        x.set(0, -1);
        due("row 0 is late", x.seen(1, 0), 0);
        due("row 5 is first", x.seen(2, 0), 1);
        due("both", x.seen(3, 0), 1);
    }

    private static void seenBeyondTheFilm() {
        HairLine x = new HairLine();
        x.runner(-299, 1);
        x.runner(-300, 1);
        x.runner(-3, 20);
        x.shape(0, 0, 0, 0, 0);
        x.shape(1, 1, 0, 0, 0);
        x.shape(2, 2, 0, 0, 0);
        x.slit(0, 63);
        due("column 299, 300, one that jumps over", x.seen(1, 0), 1);
        due("pairs", x.seen(1, 1), 3);
    }

    private static void untoldWithoutTorsos() {
        HairLine x = new HairLine();
        for (int lane = 0; lane < 6; lane++) {
            x.runner(-20, 1);
        }
        x.slit(0, 63);
        due("no torsos, no pairs", x.seen(1, 1), 0);
        x.shape(0, 0, 0, 0, 0);
        x.shape(1, 0, 1, 0, 0);
        due("one torso, no pairs", x.seen(0, 1), 0);
        x.shape(3, 3, 0, 0, 0);
        x.shape(5, 5, 0, 0, 0);
        due("three torsos", x.seen(0, 1), 3);
        due("seen", x.seen(1, 0), 1 | 8 | 32);
        due("told", x.seen(1, 1), 0);
        for (int lane = 0; lane < 6; lane++) {
            x.shape(lane, lane, 0, 0, 0);
        }
        due("six torsos", x.seen(0, 1), 15);
    }

    private static void seenRefused() {
        HairLine x = new HairLine();
        due("no slit, none asked", x.seen(0, 0), 0);
        due("no slit, one asked", x.seen(1, 0), HairLine.OUTSIDE);
        x.slit(0, 1);
        due("one slit", x.seen(1, 1), 0);
        due("two asked", x.seen(2, 0), HairLine.OUTSIDE);
        due("-1", x.seen(-1, 0), HairLine.OUTSIDE);
        due("MIN", x.seen(MIN, 0), HairLine.OUTSIDE);
        due("MAX", x.seen(MAX, 1), HairLine.OUTSIDE);
        due("what 2", x.seen(1, 2), HairLine.OUTSIDE);
        due("what -1", x.seen(0, -1), HairLine.OUTSIDE);
    }

    /** Alike, and each in a ROW of its own: a SLIT sees just those of its ROWS. */
    private static HairLine sixInRows() {
        return Scenes.withHairs(20, 20, 20, 20, 20, 20);
    }

    private static void best() {
        HairLine x = sixInRows();
        due("without slits", x.best(8, 0), 0);
        due("without slits", x.best(8, 1), 15);
        x.slit(0, 1);
        x.slit(0, 2 | 4);
        x.slit(1, 1 | 8);
        x.slit(1, 16 | 32);
        x.slit(0, 1 | 2 | 4);
        int[] sets = {0, 16, 24, 14, 14};
        int[] pairs = {15, 12, 5, 0, 0};
        for (int k = 0; k < sets.length; k++) {
            due("best(" + k + ", 0)", x.best(k, 0), sets[k]);
            due("best(" + k + ", 1)", x.best(k, 1), pairs[k]);
        }
        due("best(8, 0): fewest slits", x.best(8, 0), 14);
        x.shape(5, 5, 0, 1, 0);
        due("five torsos", x.best(0, 1), 10);
        due("five torsos", x.best(8, 1), 0);
    }

    private static void bestOfLikes() {
        HairLine x = sixInRows();
        x.slit(0, 1);
        x.slit(0, 3);
        x.slit(1, 3);
        x.slit(0, 3);
        due("least bits", x.best(1, 0), 2);
        due("least bits of many", x.best(4, 0), 2);
        x.slit(0, 4);
        x.slit(0, 4);
        due("least bits of two", x.best(2, 0), 2 | 16);
        due("two are enough", x.best(8, 0), 2 | 16);
        HairLine y = sixInRows();
        y.slit(0, 1);
        y.slit(0, 2);
        y.slit(0, 3);
        due("one rather than two, though its bits are more", y.best(2, 0), 4);
        HairLine first = sixInRows();
        first.slit(0, 3);
        first.slit(0, 3);
        due("the first alone", first.best(8, 0), 1);
        due("the first alone", first.best(8, 1), 14);
        HairLine z = sixInRows();
        z.slit(0, 1);
        z.slit(0, 2);
        due("one alone tells no pair", z.best(1, 0), 0);
        due("two do", z.best(2, 0), 3);
    }

    private static void bestRefused() {
        HairLine x = new HairLine();
        due("k = 9", x.best(9, 0), HairLine.OUTSIDE);
        due("k = -1", x.best(-1, 0), HairLine.OUTSIDE);
        due("k = MAX", x.best(MAX, 0), HairLine.OUTSIDE);
        due("k = MIN", x.best(MIN, 0), HairLine.OUTSIDE);
        due("what = 2", x.best(1, 2), HairLine.OUTSIDE);
        due("what = -1", x.best(1, -1), HairLine.OUTSIDE);
        due("k = 8", x.best(8, 1), 0);
    }

    private static void told() {
        HairLine x = new HairLine();
        int[] wrong = {-1, 4, 5, 9, 14, MIN, MAX, MIN + 10};
        for (int what : wrong) {
            due("told(" + what + ")", x.told(what), HairLine.OUTSIDE);
        }
        x.runner(0, 1);
        x.runner(0, 1);
        x.slit(0, 1);
        x.slit(0, 1);
        x.slit(0, 1);
        Scenes.sayAll(x, "t<1;w<1;h<1;e<1");
        due("told(2)", x.told(2), 15);
        x.rule();
        x.say('t');
        x.set(0, -2);
        x.set(1, 7);
        x.set(2, 33);
        x.set(3, 1);
        int[] what = {0, 1, 2, 3, 10, 11, 12, 13};
        int[] want = {2, 3, 1, 4, -2, 7, 33, 1};
        for (int i = 0; i < what.length; i++) {
            due("told(" + what[i] + ")", x.told(what[i]), want[i]);
        }
    }
}
