/** Promises 1 to 7: a new object, runner, shape, set, shows, of, moved. */
public final class RunnersTest {
    private static final Check CHECK = new Check("runners");
    private static final int MIN = Integer.MIN_VALUE;
    private static final int MAX = Integer.MAX_VALUE;

    public static void main(String[] args) {
        newObject();
        runner();
        shape();
        shapeGoes();
        set();
        showsNearest();
        showsLean();
        showsEdges();
        hairs();
        joinedIsHiddenLater();
        trueAndLeaned();
        beyondTheFilm();
        hidden();
        ofWrong();
        moved();
        movedOfSix();
        CHECK.end();
    }

    private static void due(String call, long got, long want) {
        CHECK.due(call, got, want);
    }

    private static void newObject() {
        HairLine x = new HairLine();
        for (int what = 0; what <= 3; what++) {
            due("new told(" + what + ")", x.told(what), 0);
        }
        due("new lean", x.told(10), 0);
        due("new read", x.told(11), 0);
        due("new ear", x.told(12), 100);
        due("new gun", x.told(13), 0);
        due("new moved(-1)", x.moved(-1), 0);
        due("new moved(0)", x.moved(0), HairLine.NONE);
        due("new order(-1)", x.order(-1), 0);
        due("new mended(0)", x.mended(0), HairLine.NONE);
        due("new of(0, 0)", x.of(0, 0), HairLine.UNKNOWN);
        due("new shows", x.shows(0, 0, 0), 0);
        for (int judge = 0; judge < 4; judge++) {
            due("new late least", x.late(judge, 0), 0);
            due("new late greatest", x.late(judge, 1), 50);
        }
        due("new time", x.time(0), HairLine.STATE);
        due("new record", x.record(0, 0, 0, 0), HairLine.STATE);
        due("new fault", x.fault(), 0);
        due("new seen", x.seen(0, 0), 0);
        due("new seen of no slit", x.seen(1, 0), HairLine.OUTSIDE);
        due("new best", x.best(8, 0), 0);
        due("one object's runner", x.runner(0, 1), 0);
        due("is not another's", new HairLine().told(0), 0);
    }

    private static void runner() {
        HairLine x = new HairLine();
        int[][] wrong = {{-3001, 1}, {1, 1}, {0, 0}, {0, 21}, {MIN, 5}, {MAX, 5}, {-5, MIN}, {-5, MAX}};
        for (int[] w : wrong) {
            due("runner(" + w[0] + ", " + w[1] + ")", x.runner(w[0], w[1]), HairLine.OUTSIDE);
        }
        due("none came of it", x.told(0), 0);
        due("runner(-3000, 1)", x.runner(-3000, 1), 0);
        due("runner(0, 20)", x.runner(0, 20), 1);
        for (int lane = 2; lane < 6; lane++) {
            due("runner " + lane, x.runner(-10, 5), lane);
        }
        due("a seventh", x.runner(-10, 5), HairLine.FULL);
        due("a seventh that is wrong, too", x.runner(1, 5), HairLine.OUTSIDE);
        due("told(0)", x.told(0), 6);
    }

    private static void shape() {
        HairLine x = new HairLine();
        x.runner(-20, 2);
        int[][] unknown = {{1, 0, 0, 0, 0}, {-1, 0, 0, 0, 0}, {0, 6, 0, 0, 0}, {0, -1, 0, 0, 0},
                {MAX, 0, 0, 0, 0}, {MIN, 0, 0, 0, 0}, {0, MAX, 0, 0, 0}, {0, MIN, 0, 0, 0},
                {1, 0, 2, 10, 10}, {0, 6, 2, 10, 10}};
        for (int[] u : unknown) {
            due("shape unknown", x.shape(u[0], u[1], u[2], u[3], u[4]), HairLine.UNKNOWN);
        }
        int[][] outside = {{2, 0, 0}, {-1, 0, 0}, {0, -10, 0}, {0, 0, 10}, {1, 10, 9}, {1, 0, -10},
                {MAX, 0, 0}, {0, MIN, 0}, {0, 0, MAX}};
        for (int[] o : outside) {
            due("shape outside", x.shape(0, 0, o[0], o[1], o[2]), HairLine.OUTSIDE);
        }
        due("nothing came of it", x.of(0, 3), HairLine.NONE);
        due("widest", x.shape(0, 5, 0, -9, 9), 1);
        // its front comes to 0 from -20 and 9 by 2: 11 are left, 6 columns
        due("true of the widest", x.of(0, 3), 6);
        due("a limb", x.shape(0, 4, 1, 9, 9), 1);
        due("a limb is no torso", x.of(0, 3), 6);
        due("the limb shows", x.shows(0, 5, 4), 0);
        due("odd places never meet", x.stretch(0, 4), 0);
        due("a limb again", x.shape(0, 4, 1, 8, 8), 1);
        due("the limb shows", x.shows(0, 6, 4), 2);
    }

    private static void shapeGoes() {
        HairLine x = new HairLine();
        x.runner(-10, 1);
        x.shape(0, 0, 0, 0, 0);
        x.shape(0, 0, 1, 3, 3);
        due("torso", x.shows(0, 10, 0), 1);
        due("limb", x.shows(0, 7, 0), 2);
        due("a wrong one", x.shape(0, 0, 0, 10, 0), HairLine.OUTSIDE);
        due("changes nothing", x.shows(0, 10, 0), 1);
        due("torso goes", x.shape(0, 0, 0, 9, -9), 1);
        for (int column = 0; column < 300; column++) {
            due("no torso in " + column, x.shows(0, column, 0), column == 7 ? 2 : 0);
        }
        due("no hair", x.of(0, 2), HairLine.NONE);
        due("limb goes", x.shape(0, 0, 1, 1, 0), 1);
        due("no limb", x.shows(0, 7, 0), 0);
        due("stretch 0", x.stretch(0, 0), 0);
        due("torso comes again", x.shape(0, 0, 0, -1, -1), 1);
        due("it shows", x.shows(0, 11, 0), 1);
    }

    private static void set() {
        HairLine x = new HairLine();
        int[] first = {0, 0, 100, 0};
        int[] least = {-3, 0, 0, 0};
        int[] most = {3, 9, 200, 1};
        for (int which = 0; which < 4; which++) {
            due("set below " + which, x.set(which, least[which] - 1), HairLine.OUTSIDE);
            due("set above " + which, x.set(which, most[which] + 1), HairLine.OUTSIDE);
            due("set MIN " + which, x.set(which, MIN), HairLine.OUTSIDE);
            due("set MAX " + which, x.set(which, MAX), HairLine.OUTSIDE);
            due("it stays", x.told(10 + which), first[which]);
            due("set least " + which, x.set(which, least[which]), first[which]);
            due("told least", x.told(10 + which), least[which]);
            due("set most " + which, x.set(which, most[which]), least[which]);
            due("told most", x.told(10 + which), most[which]);
        }
        due("set(-1, 0)", x.set(-1, 0), HairLine.OUTSIDE);
        due("set(4, 0)", x.set(4, 0), HairLine.OUTSIDE);
        due("set(MIN, 0)", x.set(MIN, 0), HairLine.OUTSIDE);
        due("set(MAX, 0)", x.set(MAX, 0), HairLine.OUTSIDE);
        for (int which = 0; which < 4; which++) {
            due("each for itself", x.told(10 + which), most[which]);
        }
    }

    private static void showsNearest() {
        HairLine x = new HairLine();
        for (int lane = 0; lane < 3; lane++) {
            x.runner(-10, 1);
        }
        x.shape(0, 0, 1, 0, 0);
        x.shape(1, 0, 0, -1, 1);
        x.shape(2, 0, 1, -2, 2);
        x.shape(2, 0, 0, 2, 2);
        // side 0: lane 0 is nearest; the places behind a front come later
        int[] side0 = {21, 11, 2, 11, 22};
        int[] side1 = {21, 22, 22, 22, 22};
        for (int i = 0; i < 5; i++) {
            due("side 0 column " + (8 + i), x.shows(0, 8 + i, 0), side0[i]);
            due("side 1 column " + (8 + i), x.shows(1, 8 + i, 0), side1[i]);
        }
        due("ahead of all", x.shows(0, 7, 0), 0);
        due("behind all", x.shows(1, 13, 0), 0);
        due("another row", x.shows(0, 10, 1), 0);
        x.shape(0, 0, 0, 0, 0);
        due("a torso ahead of its limb", x.shows(0, 10, 0), 1);
    }

    private static void showsLean() {
        HairLine x = new HairLine();
        x.runner(-10, 1);
        for (int row = 0; row < 6; row++) {
            x.shape(0, row, 0, 0, 0);
        }
        for (int lean = -3; lean <= 3; lean++) {
            x.set(0, lean);
            for (int row = 0; row < 6; row++) {
                // place lean * row is met in column 10 + lean * row, if there is such a one
                int column = 10 + lean * row;
                if (column >= 0) {
                    due("lean " + lean + " row " + row, x.shows(0, column, row), 1);
                    due("and later", x.shows(0, column + 1, row), 0);
                }
            }
        }
    }

    private static void showsEdges() {
        HairLine x = new HairLine();
        x.runner(0, 1);
        x.runner(-299, 1);
        x.runner(-300, 1);
        for (int lane = 0; lane < 3; lane++) {
            x.shape(lane, 0, 0, 0, 0);
        }
        due("column 0", x.shows(0, 0, 0), 1);
        due("column 299", x.shows(0, 299, 0), 11);
        due("column 300", x.shows(0, 300, 0), HairLine.OUTSIDE);
        due("column -1", x.shows(0, -1, 0), HairLine.OUTSIDE);
        due("side -1", x.shows(-1, 0, 0), HairLine.OUTSIDE);
        due("side 2", x.shows(2, 0, 0), HairLine.OUTSIDE);
        due("row -1", x.shows(0, 0, -1), HairLine.UNKNOWN);
        due("row 6 of a wrong side", x.shows(2, 300, 6), HairLine.UNKNOWN);
        due("MAX", x.shows(0, MAX, 0), HairLine.OUTSIDE);
        due("MIN", x.shows(0, MIN, 0), HairLine.OUTSIDE);
        due("hair in column 0", x.of(0, 2), 0);
        due("hair in column 299", x.of(1, 2), 299);
        due("no hair in column 300", x.of(2, 2), HairLine.NONE);
    }

    private static void hairs() {
        HairLine x = new HairLine();
        x.runner(-20, 1);
        x.runner(-20, 1);
        x.runner(-22, 1);
        // lane 0 hides lane 1 in row 0 from side 0 for its first columns, lane 2 from side 1 later on
        x.shape(0, 0, 1, -1, 3);
        x.shape(1, 0, 0, -3, 3);
        x.shape(2, 0, 0, -3, 3);
        due("hair by side 0", x.of(1, 0), 22);
        due("hair by side 1", x.of(1, 1), 17);
        due("joined", x.of(1, 2), 17);
        due("the other way by side 0", x.of(2, 0), 24);
        due("the other way by side 1", x.of(2, 1), 19);
        due("joined", x.of(2, 2), 19);
        due("a limb has no hair", x.of(0, 2), HairLine.NONE);
        // hidden by side 0 in every column, but in another row
        x.shape(0, 0, 1, -9, 9);
        due("hidden by side 0", x.of(1, 0), HairLine.NONE);
        due("joined of one side", x.of(1, 2), 17);
        due("not hidden", x.of(1, 5), 0);
        x.shape(1, 5, 0, -3, -3);
        due("in another row", x.of(1, 0), 23);
    }

    private static void joinedIsHiddenLater() {
        HairLine x = new HairLine();
        for (int lane = 0; lane < 3; lane++) {
            x.runner(-20, 1);
        }
        x.shape(1, 2, 0, -3, 3);
        x.shape(0, 2, 1, 1, 3);
        x.shape(2, 2, 0, 2, 3);
        due("by side 0", x.of(1, 0), 20);
        due("by side 1", x.of(1, 1), 19);
        due("joined", x.of(1, 2), 19);
        due("leaned", x.of(1, 4), 17);
        due("hidden", x.of(1, 5), 1);
        x.shape(2, 2, 0, 1, 0);
        due("by side 1", x.of(1, 1), 17);
        due("not hidden", x.of(1, 5), 0);
    }

    private static void trueAndLeaned() {
        HairLine x = new HairLine();
        x.runner(-30, 7);
        x.shape(0, 1, 0, -2, 2);
        x.shape(0, 4, 0, -9, 1);
        due("true", x.of(0, 3), 4);
        due("leaned upright", x.of(0, 4), 4);
        x.set(0, 3);
        // row 1: 3 + 30 - 2 = 31, column 5; row 4: 12 + 30 - 1 = 41, column 6
        due("leaned 3", x.of(0, 4), 5);
        due("true stays", x.of(0, 3), 4);
        x.set(0, -3);
        // row 1: 25, column 4; row 4: 17, column 3
        due("leaned -3", x.of(0, 4), 3);
        x.runner(0, 20);
        x.shape(1, 0, 0, 5, 5);
        due("beyond at once", x.of(1, 3), 0);
        due("its back, too: no hair", x.of(1, 2), HairLine.NONE);
        due("hidden", x.of(1, 5), 1);
        x.shape(1, 0, 0, -9, -9);
        due("9 by 20", x.of(1, 3), 1);
        x.shape(0, 4, 0, 1, 0);
        x.shape(0, 1, 0, -2, 2);
        x.set(0, 0);
        due("28 by 7, just", x.of(0, 3), 4);
        x.shape(0, 1, 0, -2, 1);
        due("29 by 7", x.of(0, 3), 5);
        for (int row = 0; row < 6; row++) {
            x.shape(0, row, 1, -9, 9);
        }
        due("limbs do not count", x.of(0, 3), 5);
        due("limbs do not count", x.of(0, 4), 5);
    }

    private static void beyondTheFilm() {
        HairLine x = new HairLine();
        x.runner(-3000, 1);
        x.shape(0, 5, 0, -9, -9);
        due("true", x.of(0, 3), 3009);
        x.set(0, 3);
        due("leaned", x.of(0, 4), 3024);
        due("joined", x.of(0, 2), HairLine.NONE);
        due("hidden", x.of(0, 5), 1);
        due("not in order", x.order(-1), 0);
        due("stretch", x.stretch(0, 5), 0);
    }

    private static void hidden() {
        HairLine x = new HairLine();
        x.runner(-7, 20);
        due("without a torso", x.of(0, 5), 0);
        x.shape(0, 0, 1, -9, 9);
        due("with a limb alone", x.of(0, 5), 0);
        x.shape(0, 0, 0, 0, 0);
        due("it jumps over the slit", x.of(0, 5), 1);
        x.shape(0, 0, 0, 0, 7);
        due("it does not", x.of(0, 5), 0);
        x.shape(0, 0, 0, 8, 8);
        x.shape(0, 1, 0, -9, -9);
        due("leaned", x.of(0, 4), 0);
        due("no hair", x.of(0, 2), HairLine.NONE);
        x.shape(0, 1, 0, -9, 0);
        due("still none", x.of(0, 2), HairLine.NONE);
        due("hidden", x.of(0, 5), 1);
    }

    private static void ofWrong() {
        HairLine x = new HairLine();
        x.runner(-10, 1);
        for (int what = 0; what <= 4; what++) {
            due("without a torso " + what, x.of(0, what), HairLine.NONE);
        }
        due("hears", x.of(0, 6), 0);
        due("no push", x.of(0, 7), HairLine.NONE);
        due("of(0, 8)", x.of(0, 8), HairLine.OUTSIDE);
        due("of(0, -1)", x.of(0, -1), HairLine.OUTSIDE);
        due("of(0, MAX)", x.of(0, MAX), HairLine.OUTSIDE);
        due("of(1, 0)", x.of(1, 0), HairLine.UNKNOWN);
        due("of(-1, 0)", x.of(-1, 0), HairLine.UNKNOWN);
        due("of(1, 8)", x.of(1, 8), HairLine.UNKNOWN);
        due("of(MIN, 0)", x.of(MIN, 0), HairLine.UNKNOWN);
    }

    private static void moved() {
        HairLine x = new HairLine();
        for (int lane = 0; lane < 4; lane++) {
            x.runner(-20, 1);
        }
        x.shape(0, 0, 0, 0, 0);
        x.shape(1, 5, 0, 0, 0);
        x.shape(2, 5, 0, -2, 2);
        x.shape(3, 5, 1, -2, 2);
        due("upright none", x.moved(-1), 0);
        x.set(0, 1);
        // true 20, 20, 18; leaned 20, 25, 23: alike becomes ahead, behind becomes ahead
        due("how many", x.moved(-1), 2);
        due("first", x.moved(0), 1);
        due("second", x.moved(1), 2);
        due("no third", x.moved(2), HairLine.NONE);
        due("below", x.moved(-2), HairLine.NONE);
        due("MIN", x.moved(MIN), HairLine.NONE);
        due("MAX", x.moved(MAX), HairLine.NONE);
        x.shape(3, 0, 0, 0, 0);
        // lane 3 stands as lane 0 does
        due("how many now", x.moved(-1), 4);
        int[] want = {1, 2, 13, 23};
        for (int i = 0; i < want.length; i++) {
            due("moved(" + i + ")", x.moved(i), want[i]);
        }
        x.set(0, -1);
        // leaned 20, 15, 13, 20: only the alike are moved
        due("lean -1", x.moved(-1), 2);
        due("lean -1 first", x.moved(0), 1);
        due("lean -1 second", x.moved(1), 13);
        x.shape(1, 5, 0, 1, 0);
        due("without its torso", x.moved(-1), 0);
    }

    private static void movedOfSix() {
        HairLine x = Scenes.withHairs(20, 20, 20, 20, 20, 20);
        due("upright none", x.moved(-1), 0);
        x.set(0, 3);
        due("each pair", x.moved(-1), 15);
        int i = 0;
        for (int lane = 0; lane < 6; lane++) {
            for (int other = lane + 1; other < 6; other++) {
                due("moved(" + i + ")", x.moved(i), 10 * lane + other);
                i++;
            }
        }
        due("no more", x.moved(15), HairLine.NONE);
    }
}
