/** The edges of section 6 and of promises 25 to 28, each behind the words that name it. */
public final class SlitEdgesTest {
    private static final Check CHECK = new Check("slit edges");
    private static final int TORSO = 0;
    private static final int LIMB = 1;

    public static void main(String[] args) {
        eightAtMost();
        rowsItLooksAt();
        slitRefused();
        leanAsItIs();
        seenByNone();
        seenBits();
        firstColumnIsLeaned();
        seenAtTheFilmsEnds();
        theirRowsOnTheirFilms();
        runnersWithoutTorsos();
        oneOrBothNotSeen();
        atMostK();
        bestWithoutSlits();
        ofSeveralTheFewest();
        thenTheLeastAsBits();
        bestOfEight();
        toldOfNothing();
        toldOfAll();
        CHECK.end();
    }

    private static void due(String call, long got, long want) {
        CHECK.due(call, got, want);
    }

    /** Alike, and each in a ROW of its own: a SLIT sees just those of its ROWS. */
    private static HairLine sixInRows(int... slitRows) {
        HairLine x = Scenes.withHairs(20, 20, 20, 20, 20, 20);
        for (int rows : slitRows) {
            x.slit(0, rows);
        }
        return x;
    }

    /** "SLITS, 8 at most, numbered from 0 on"; "A SLIT: its number. OUTSIDE; FULL." */
    private static void eightAtMost() {
        HairLine x = new HairLine();
        for (int i = 0; i < 8; i++) {
            due("not there yet", x.seen(1 << i, 0), HairLine.OUTSIDE);
            due("its number", x.slit(i % 2, 63), i);
            due("it is there", x.seen(1 << i, 0), 0);
            due("told", x.told(1), i + 1);
        }
        due("a ninth", x.slit(0, 63), HairLine.FULL);
        due("still eight", x.told(1), 8);
        due("there is no such one", x.seen(256, 0), HairLine.OUTSIDE);
    }

    /** "a SIDE and ROWS that it looks at (bits 1 to 63)". */
    private static void rowsItLooksAt() {
        HairLine x = sixInRows(1, 2, 4, 8, 16, 32, 63);
        for (int row = 0; row < 6; row++) {
            due("row " + row + " alone", x.seen(1 << row, 0), 1 << row);
        }
        due("all rows", x.seen(64, 0), 63);
    }

    /** "OUTSIDE; FULL." */
    private static void slitRefused() {
        HairLine x = new HairLine();
        due("rows 0", x.slit(0, 0), HairLine.OUTSIDE);
        due("rows 64", x.slit(0, 64), HairLine.OUTSIDE);
        due("rows -1", x.slit(0, -1), HairLine.OUTSIDE);
        due("side -1", x.slit(-1, 1), HairLine.OUTSIDE);
        due("side 2", x.slit(2, 1), HairLine.OUTSIDE);
        due("none came of it", x.told(1), 0);
        due("rows 1", x.slit(0, 1), 0);
        due("rows 63", x.slit(1, 63), 1);
        HairLine full = Scenes.FULL.play();
        due("full", full.slit(0, 1), HairLine.FULL);
        due("full, rows 0", full.slit(0, 0), HairLine.OUTSIDE);
        due("full, rows 64", full.slit(0, 64), HairLine.OUTSIDE);
        due("full, side 2", full.slit(2, 1), HairLine.OUTSIDE);
    }

    /** "at LEAN as it is": not as it was when the SLIT came. */
    private static void leanAsItIs() {
        HairLine x = new HairLine();
        x.runner(-20, 1);
        x.shape(0, 0, TORSO, 0, 0);
        x.shape(0, 5, TORSO, 0, 0);
        x.set(0, -3);
        x.slit(0, 1);
        x.slit(0, 32);
        due("row 5 is first", x.seen(1, 0), 0);
        due("row 5 is first", x.seen(2, 0), 1);
        x.set(0, 3);
        due("row 0 is first", x.seen(1, 0), 1);
        due("row 0 is first", x.seen(2, 0), 0);
        x.set(0, 0);
        due("both at once", x.seen(1, 0), 1);
        due("both at once", x.seen(2, 0), 1);
    }

    /** "by some SLITS (bits)": 0 are none of them. */
    private static void seenByNone() {
        HairLine x = new HairLine();
        due("no runners, no slits", x.seen(0, 0), 0);
        due("no runners, no slits", x.seen(0, 1), 0);
        HairLine y = sixInRows(63);
        due("by none of the slits", y.seen(0, 0), 0);
        due("by none of the slits", y.seen(0, 1), 15);
    }

    /** "by some SLITS (bits), as bits (what = 0), UNTOLD pairs (1). OUTSIDE." */
    private static void seenBits() {
        for (int slits = 0; slits <= 8; slits++) {
            HairLine x = new HairLine();
            for (int i = 0; i < slits; i++) {
                x.slit(0, 1);
            }
            int all = (1 << slits) - 1;
            due("all of " + slits, x.seen(all, 0), 0);
            due("one more than all of " + slits, x.seen(all + 1, 0), HairLine.OUTSIDE);
            due("-1", x.seen(-1, 0), HairLine.OUTSIDE);
            due("what -1", x.seen(all, -1), HairLine.OUTSIDE);
            due("what 1", x.seen(all, 1), 0);
            due("what 2", x.seen(all, 2), HairLine.OUTSIDE);
        }
    }

    /** "if the first COLUMN with its TORSO in one of their ROWS on their FILMS is LEANED". */
    private static void firstColumnIsLeaned() {
        HairLine x = new HairLine();
        x.runner(-20, 1);
        x.runner(-20, 1);
        x.shape(1, 0, TORSO, -2, 2);
        x.shape(1, 1, TORSO, -2, 1);
        x.slit(0, 1);
        x.slit(0, 2);
        x.slit(1, 1);
        due("at leaned", x.seen(1, 0), 2);
        due("its row is one later", x.seen(2, 0), 0);
        x.shape(0, 0, LIMB, 2, 2);
        due("hidden in that column", x.seen(1, 0), 0);
        due("not from the other side", x.seen(4, 0), 2);
        due("one of the two is enough", x.seen(5, 0), 2);
        x.shape(0, 0, LIMB, 1, 1);
        due("hidden one later", x.seen(1, 0), 2);
        x.shape(0, 0, LIMB, 2, 2);
        x.runner(-20, 1);
        x.shape(2, 0, LIMB, 2, 2);
        due("hidden from both sides", x.of(1, 2), 19);
        due("seen in the next column is not seen", x.seen(5, 0), 0);
        due("in no row of any side", x.seen(7, 0), 0);
    }

    /** "the first COLUMN with its TORSO": there is none beyond the FILM. */
    private static void seenAtTheFilmsEnds() {
        HairLine x = Scenes.withHairs(0, 299, 300);
        x.slit(0, 63);
        x.slit(1, 63);
        due("columns 0, 299, 300", x.seen(1, 0), 3);
        due("columns 0, 299, 300", x.seen(2, 0), 3);
        due("two pairs are untold", x.seen(3, 1), 2);
        HairLine y = new HairLine();
        y.runner(0, 1);
        y.shape(0, 0, TORSO, 1, 1);
        y.runner(-10, 20);
        y.shape(1, 1, TORSO, 0, 0);
        y.runner(0, 1);
        y.shape(2, 2, TORSO, 0, 9);
        y.slit(0, 63);
        due("over it before column 0; between two; back still at it", y.seen(1, 0), 4);
    }

    /** "in one of their ROWS on their FILMS": each SLIT's ROWS on its own FILM. */
    private static void theirRowsOnTheirFilms() {
        HairLine x = new HairLine();
        for (int lane = 0; lane < 3; lane++) {
            x.runner(-20, 1);
        }
        x.shape(0, 0, LIMB, -9, 9);
        x.shape(1, 0, TORSO, 0, 0);
        x.shape(1, 1, TORSO, 0, 0);
        x.shape(2, 1, LIMB, -9, 9);
        x.slit(0, 1);
        x.slit(1, 2);
        x.slit(1, 1);
        x.slit(0, 2);
        due("row 0 of side 0, row 1 of side 1: not the other way round", x.seen(3, 0), 0);
        due("row 0 of side 1", x.seen(4, 0), 2);
        due("row 1 of side 0", x.seen(8, 0), 2);
    }

    /** "pairs of RUNNERS with TORSOS". */
    private static void runnersWithoutTorsos() {
        HairLine x = new HairLine();
        x.slit(0, 63);
        for (int lane = 0; lane < 6; lane++) {
            x.runner(-20, 1);
            for (int row = 0; row < 6; row++) {
                x.shape(lane, row, LIMB, 0, 0);
            }
        }
        due("limbs are not seen", x.seen(1, 0), 0);
        due("no pairs", x.seen(0, 1), 0);
        int[] pairs = {0, 1, 3, 6, 10, 15};
        for (int lane = 0; lane < 6; lane++) {
            x.shape(lane, lane, TORSO, 0, 0);
            due("torsos: " + (lane + 1), x.seen(0, 1), pairs[lane]);
        }
    }

    /** "of which one or both are not SEEN". */
    private static void oneOrBothNotSeen() {
        HairLine x = sixInRows(1, 3, 7, 15, 31, 63);
        int[] untold = {15, 14, 12, 9, 5, 0};
        for (int slit = 0; slit < 6; slit++) {
            due("seen: " + (slit + 1), x.seen(1 << slit, 1), untold[slit]);
        }
    }

    /** "at most k (0 to 8)"; "OUTSIDE." */
    private static void atMostK() {
        HairLine x = sixInRows(3, 12, 48);
        due("k -1", x.best(-1, 0), HairLine.OUTSIDE);
        due("k 9", x.best(9, 0), HairLine.OUTSIDE);
        due("what -1", x.best(0, -1), HairLine.OUTSIDE);
        due("what 2", x.best(8, 2), HairLine.OUTSIDE);
        int[] sets = {0, 1, 3, 7, 7, 7, 7, 7, 7};
        int[] untold = {15, 14, 9, 0, 0, 0, 0, 0, 0};
        for (int k = 0; k <= 8; k++) {
            due("set of " + k, x.best(k, 0), sets[k]);
            due("untold by " + k, x.best(k, 1), untold[k]);
        }
    }

    /** "SET: at most k SLITS": none, if none is there or none is needed. */
    private static void bestWithoutSlits() {
        HairLine x = new HairLine();
        due("nothing at all", x.best(8, 0), 0);
        due("nothing at all", x.best(8, 1), 0);
        HairLine y = sixInRows();
        due("no slits", y.best(8, 0), 0);
        due("no slits", y.best(8, 1), 15);
        HairLine z = new HairLine();
        z.slit(0, 63);
        due("no runners: none is needed", z.best(8, 0), 0);
        due("no runners", z.best(8, 1), 0);
        z.runner(-20, 1);
        z.shape(0, 0, TORSO, 0, 0);
        due("one runner is no pair", z.best(8, 0), 0);
        z.runner(-20, 1);
        z.shape(1, 1, TORSO, 0, 0);
        due("two are one", z.best(8, 0), 1);
        due("and it is told", z.best(8, 1), 0);
    }

    /** "of several the fewest SLITS". */
    private static void ofSeveralTheFewest() {
        HairLine x = sixInRows(1, 2, 4, 8, 16, 32, 31, 63);
        due("one sees all", x.best(8, 0), 128);
        due("one sees all", x.best(1, 0), 128);
        HairLine y = sixInRows(7, 56, 1, 2, 4, 8, 16, 32);
        due("two see all", y.best(8, 0), 3);
        HairLine z = sixInRows(1, 1, 1);
        due("none tells a pair", z.best(8, 0), 0);
        due("none tells a pair", z.best(8, 1), 15);
    }

    /** "then the least as bits". */
    private static void thenTheLeastAsBits() {
        due("of like ones the first", sixInRows(1, 7, 7, 7).best(8, 0), 2);
        due("of like ones the first two", sixInRows(7, 7, 56, 56).best(8, 0), 5);
        // slits 0 and 3 see all, so do 1 and 2: 9 against 6
        due("6 rather than 9", sixInRows(7, 15, 48, 56).best(8, 0), 6);
        // slits 0 and 2, 0 and 1: 5 against 3
        due("3 rather than 5", sixInRows(7, 56, 56).best(2, 0), 3);
    }

    /** "at most k (0 to 8)": of all eight. */
    private static void bestOfEight() {
        HairLine x = Scenes.withHairs(20, 20, 20, 20, 20, 20);
        for (int slit = 0; slit < 6; slit++) {
            x.slit(1, 1 << slit);
        }
        x.slit(0, 1);
        x.slit(0, 2);
        int[] sets = {0, 0, 3, 7, 15, 31, 63, 63, 63};
        int[] untold = {15, 15, 14, 12, 9, 5, 0, 0, 0};
        for (int k = 0; k <= 8; k++) {
            due("set of " + k, x.best(k, 0), sets[k]);
            due("untold by " + k, x.best(k, 1), untold[k]);
        }
    }

    /** "0 RUNNERS, 1 SLITS, 2 signs, 3 LINES of the RULE, 10 to 13 what set() sets. OUTSIDE." */
    private static void toldOfNothing() {
        HairLine x = new HairLine();
        int[] what = {-1, 0, 1, 2, 3, 4, 9, 10, 11, 12, 13, 14};
        int[] want = {-2, 0, 0, 0, 0, -2, -2, 0, 0, 100, 0, -2};
        for (int i = 0; i < what.length; i++) {
            due("told(" + what[i] + ")", x.told(what[i]), want[i]);
        }
    }

    /** The same of an object that is full. */
    private static void toldOfAll() {
        HairLine x = Scenes.FULL.play();
        x.set(3, 1);
        int[] what = {-1, 0, 1, 2, 3, 4, 9, 10, 11, 12, 13, 14};
        int[] want = {-2, 6, 8, 30, 7, -2, -2, 2, 9, 200, 1, -2};
        for (int i = 0; i < what.length; i++) {
            due("told(" + what[i] + ")", x.told(what[i]), want[i]);
        }
    }
}
