/** The edges of section 1 and of promises 1 to 7, each behind the words that name it. */
public final class RunnerEdgesTest {
    private static final Check CHECK = new Check("runner edges");
    private static final int NONE = HairLine.NONE;
    private static final int TORSO = 0;
    private static final int LIMB = 1;

    public static void main(String[] args) {
        nothingYet();
        sixAtMost();
        beginnings();
        speedsOfRunners();
        columnsOfTheFilm();
        rowsOfARunner();
        reaches();
        fromNotAboveTo();
        noneAtFirst();
        bothEndsCover();
        leans();
        nothingOnTheFilm();
        nearest();
        lastLaneIsTheLastThatCame();
        torsoElseLimb();
        hairInFirstAndLastColumn();
        hairOfATorsoAlone();
        joinedOfOneSide();
        frontAtTheLine();
        trueAtOnceAndFarBeyond();
        leanedAtOnceAndFarBeyond();
        hiddenIsLaterThanLeaned();
        hiddenBeyondTheFilm();
        hiddenWithoutATorso();
        movedByEachChange();
        movedWithTorsosAlone();
        movedByLeanedNotByHairs();
        movedNumbers();
        setTellsWhatWas();
        refusedFirst();
        CHECK.end();
    }

    private static void due(String call, long got, long want) {
        CHECK.due(call, got, want);
    }

    private static HairLine one(int begin, int speed, int row, int from, int to) {
        HairLine x = new HairLine();
        x.runner(begin, speed);
        x.shape(0, row, TORSO, from, to);
        return x;
    }

    /** "No RUNNERS, no SLITS, no RULE; one gun." */
    private static void nothingYet() {
        HairLine x = new HairLine();
        due("no runners", x.told(0), 0);
        due("no slits", x.told(1), 0);
        due("no signs", x.told(2), 0);
        due("no rule", x.told(3), 0);
        due("one gun", x.told(13), 0);
        for (int what = 0; what <= 7; what++) {
            due("of nobody " + what, x.of(0, what), HairLine.UNKNOWN);
        }
        due("shape of nobody", x.shape(0, 0, 0, 0, 0), HairLine.UNKNOWN);
        due("place of nobody", x.place(0, 0), HairLine.UNKNOWN);
        due("stretch of nobody", x.stretch(0, 0), HairLine.UNKNOWN);
        due("push of nobody", x.push(0, 0), HairLine.UNKNOWN);
        due("an empty film", x.shows(0, 0, 0), 0);
        due("an empty film", x.shows(1, 299, 5), 0);
        due("no pair is moved", x.moved(-1), 0);
        due("no pair is moved", x.moved(0), NONE);
    }

    /** "RUNNERS, 6 at most, numbered from 0 on"; "A RUNNER: the number. OUTSIDE; FULL." */
    private static void sixAtMost() {
        HairLine x = new HairLine();
        for (int lane = 0; lane < 6; lane++) {
            due("not yet " + lane, x.of(lane, 6), HairLine.UNKNOWN);
            due("its number", x.runner(-10, 1), lane);
            due("it is there", x.of(lane, 6), 3 * lane);
            due("told", x.told(0), lane + 1);
        }
        due("a seventh", x.runner(-10, 1), HairLine.FULL);
        due("still six", x.told(0), 6);
        due("there is no such one", x.of(6, 6), HairLine.UNKNOWN);
    }

    /** "each begins at a place (-3000 to 0) in COLUMN 0". */
    private static void beginnings() {
        due("-3001", new HairLine().runner(-3001, 1), HairLine.OUTSIDE);
        due("1", new HairLine().runner(1, 1), HairLine.OUTSIDE);
        HairLine near = one(0, 5, 0, 0, 0);
        due("at 0 in column 0", near.shows(0, 0, 0), 1);
        due("no more in column 1", near.shows(0, 1, 0), 0);
        HairLine far = one(-3000, 20, 0, 0, 0);
        due("from -3000 by 20", far.of(0, 2), 150);
        due("a refused one takes no number", tookNoNumber(), 0);
    }

    private static int tookNoNumber() {
        HairLine x = new HairLine();
        x.runner(-3001, 1);
        x.runner(1, 1);
        x.runner(0, 0);
        x.runner(0, 21);
        return x.runner(0, 1);
    }

    /** "comes SPEED (1 to 20) farther each COLUMN". */
    private static void speedsOfRunners() {
        due("0", new HairLine().runner(0, 0), HairLine.OUTSIDE);
        due("-1", new HairLine().runner(0, -1), HairLine.OUTSIDE);
        due("21", new HairLine().runner(0, 21), HairLine.OUTSIDE);
        HairLine slow = one(-40, 1, 0, 0, 0);
        due("by 1", slow.of(0, 2), 40);
        HairLine fast = one(-40, 20, 0, 0, 0);
        due("by 20", fast.of(0, 2), 2);
    }

    /** "each COLUMN, 0 to 299"; "OUTSIDE: SIDE, COLUMN". */
    private static void columnsOfTheFilm() {
        HairLine x = new HairLine();
        x.runner(0, 1);
        x.runner(-299, 1);
        x.shape(0, 0, TORSO, 0, 0);
        x.shape(1, 0, TORSO, 0, 0);
        due("-1", x.shows(0, -1, 0), HairLine.OUTSIDE);
        due("0", x.shows(0, 0, 0), 1);
        due("299", x.shows(0, 299, 0), 11);
        due("300", x.shows(0, 300, 0), HairLine.OUTSIDE);
        due("side -1", x.shows(-1, 0, 0), HairLine.OUTSIDE);
        due("side 1", x.shows(1, 0, 0), 1);
        due("side 2", x.shows(2, 0, 0), HairLine.OUTSIDE);
    }

    /** "ROWS 0 to 5 (0 is lowest) of a RUNNER"; "UNKNOWN: the ROW". */
    private static void rowsOfARunner() {
        HairLine x = new HairLine();
        x.runner(-10, 1);
        for (int row : new int[] {-1, 6}) {
            due("shape row " + row, x.shape(0, row, TORSO, 0, 0), HairLine.UNKNOWN);
            due("shows row " + row, x.shows(0, 10, row), HairLine.UNKNOWN);
            due("stretch row " + row, x.stretch(0, row), HairLine.UNKNOWN);
        }
        due("nothing came of it", x.of(0, 3), NONE);
        for (int row = 0; row < 6; row++) {
            due("a torso in row " + row, x.shape(0, row, TORSO, 0, 0), 1);
            due("it shows", x.shows(0, 10, row), 1);
            due("a limb in row " + row, x.shape(0, row, LIMB, 0, 0), 1);
            due("it covers", x.stretch(0, row), 1);
            for (int above = row + 1; above < 6; above++) {
                due("not yet in row " + above, x.shows(0, 10, above), 0);
            }
        }
    }

    /** "-9 to 9"; "OUTSIDE: what, -9 to 9." */
    private static void reaches() {
        for (int what = TORSO; what <= LIMB; what++) {
            HairLine x = new HairLine();
            x.runner(-20, 1);
            due("from -10", x.shape(0, 0, what, -10, 0), HairLine.OUTSIDE);
            due("from 10", x.shape(0, 0, what, 10, 9), HairLine.OUTSIDE);
            due("to -10", x.shape(0, 0, what, -9, -10), HairLine.OUTSIDE);
            due("to 10", x.shape(0, 0, what, 0, 10), HairLine.OUTSIDE);
            due("none came of it", x.shows(0, 20, 0), 0);
            due("-9 to 9", x.shape(0, 0, what, -9, 9), 1);
            due("ahead of it", x.shows(0, 10, 0), 0);
            due("its front", x.shows(0, 11, 0), 1 + what);
            due("its back", x.shows(0, 29, 0), 1 + what);
            due("behind it", x.shows(0, 30, 0), 0);
            due("just -9", x.shape(0, 0, what, -9, -9), 1);
            due("ahead of it", x.shows(0, 28, 0), 0);
            due("there", x.shows(0, 29, 0), 1 + what);
            due("just 9", x.shape(0, 0, what, 9, 9), 1);
            due("there", x.shows(0, 11, 0), 1 + what);
            due("behind it", x.shows(0, 12, 0), 0);
        }
        HairLine y = new HairLine();
        y.runner(-20, 1);
        due("what -1", y.shape(0, 0, -1, 0, 0), HairLine.OUTSIDE);
        due("what 2", y.shape(0, 0, 2, 0, 0), HairLine.OUTSIDE);
    }

    /** "from not above to, .. or there is none"; "(from above to: there is none any more)". */
    private static void fromNotAboveTo() {
        for (int what = TORSO; what <= LIMB; what++) {
            for (int to = -9; to < 9; to++) {
                HairLine x = new HairLine();
                x.runner(-20, 1);
                due("from = to", x.shape(0, 2, what, to, to), 1);
                due("there is one", x.shows(0, 20 - to, 2), 1 + what);
                due("from one above to", x.shape(0, 2, what, to + 1, to), 1);
                due("there is none", x.shows(0, 20 - to, 2), 0);
                due("there is none", x.shows(0, 19 - to, 2), 0);
                due("no hair", x.of(0, 2), NONE);
                due("no true", x.of(0, 3), NONE);
                due("no stretch", x.stretch(0, 2), 0);
            }
        }
        HairLine x = one(-20, 1, 2, 0, 0);
        x.shape(0, 2, LIMB, 3, 3);
        due("9 above -9", x.shape(0, 2, TORSO, 9, -9), 1);
        due("no torso any more", x.of(0, 3), NONE);
        due("its limb stays", x.stretch(0, 2), 1);
        due("and another one", x.shape(0, 2, TORSO, 1, 1), 1);
        due("is there", x.of(0, 3), 19);
    }

    /** "or there is none (at first); its LIMB likewise". */
    private static void noneAtFirst() {
        HairLine x = new HairLine();
        x.runner(-20, 1);
        for (int row = 0; row < 6; row++) {
            due("no limb", x.stretch(0, row), 0);
            for (int column = 0; column < 40; column++) {
                due("nothing shows", x.shows(0, column, row), 0);
            }
        }
        for (int what = 0; what <= 4; what++) {
            due("NONE of each, " + what, x.of(0, what), NONE);
        }
    }

    /** "if that place lies from where it is and its from to where it is and its to". */
    private static void bothEndsCover() {
        HairLine x = one(-20, 1, 0, -1, 3);
        int[] want = {0, 1, 1, 1, 1, 1, 0};
        for (int i = 0; i < want.length; i++) {
            due("column " + (16 + i), x.shows(0, 16 + i, 0), want[i]);
        }
        HairLine fast = one(-20, 7, 0, -1, 1);
        // at -6, 1, 8: from -7 to -5, from 0 to 2
        due("column 2", fast.shows(0, 2, 0), 0);
        due("its from is at the line", fast.shows(0, 3, 0), 1);
        fast.shape(0, 0, TORSO, 0, 1);
        due("its from is beyond", fast.shows(0, 3, 0), 0);
        fast.shape(0, 0, TORSO, 0, 6);
        due("its to is at the line", fast.shows(0, 2, 0), 1);
        fast.shape(0, 0, TORSO, 0, 5);
        due("its to is one short", fast.shows(0, 2, 0), 0);
    }

    /** "LEAN (-3 to 3; 0 at first): in ROW y the slit looks at place LEAN times y." */
    private static void leans() {
        HairLine x = one(-20, 1, 5, 0, 0);
        x.shape(0, 0, TORSO, 0, 0);
        due("0 at first", x.told(10), 0);
        due("-4", x.set(0, -4), HairLine.OUTSIDE);
        due("4", x.set(0, 4), HairLine.OUTSIDE);
        due("upright", x.shows(0, 20, 5), 1);
        due("-3", x.set(0, -3), 0);
        due("row 5 at -15", x.shows(0, 5, 5), 1);
        due("and there alone", x.shows(0, 20, 5), 0);
        due("row 0 at 0", x.shows(0, 20, 0), 1);
        due("3", x.set(0, 3), -3);
        due("row 5 at 15", x.shows(0, 35, 5), 1);
        due("row 0 at 0", x.shows(0, 20, 0), 1);
        due("told", x.told(10), 3);
    }

    /** "in each COLUMN and ROW there is 0, or what the nearest .. SHOWS". */
    private static void nothingOnTheFilm() {
        HairLine x = one(-10, 1, 3, 0, 0);
        for (int side = 0; side < 2; side++) {
            due("ahead", x.shows(side, 9, 3), 0);
            due("there", x.shows(side, 10, 3), 1);
            due("behind", x.shows(side, 11, 3), 0);
            due("the row below", x.shows(side, 10, 2), 0);
            due("the row above", x.shows(side, 10, 4), 0);
        }
    }

    /** "(0: lane 0 is nearest; 1: the last lane is)". */
    private static void nearest() {
        HairLine x = new HairLine();
        for (int lane = 0; lane < 6; lane++) {
            x.runner(-10, 1);
            x.shape(lane, 0, lane % 2, 0, 0);
        }
        for (int lane = 0; lane < 5; lane++) {
            due("side 0: lane " + lane, x.shows(0, 10, 0), 10 * lane + 1 + lane % 2);
            x.shape(lane, 0, lane % 2, 1, 0);
        }
        due("the last is left", x.shows(0, 10, 0), 52);
        for (int lane = 0; lane < 5; lane++) {
            x.shape(lane, 0, lane % 2, 0, 0);
        }
        for (int lane = 5; lane > 0; lane--) {
            due("side 1: lane " + lane, x.shows(1, 10, 0), 10 * lane + 1 + lane % 2);
            x.shape(lane, 0, lane % 2, 1, 0);
        }
        due("the first is left", x.shows(1, 10, 0), 1);
    }

    /** "1: the last lane is": the last of those that are there by now. */
    private static void lastLaneIsTheLastThatCame() {
        HairLine x = one(-10, 1, 0, 0, 0);
        due("alone", x.shows(1, 10, 0), 1);
        x.runner(-10, 1);
        due("the last one has nothing there", x.shows(1, 10, 0), 1);
        x.shape(1, 0, LIMB, 0, 0);
        due("now it hides the other", x.shows(1, 10, 0), 12);
        due("from side 1 alone", x.shows(0, 10, 0), 1);
        due("hair by side 1", x.of(0, 1), NONE);
    }

    /** "10 times it, and 1 for its TORSO, else 2." */
    private static void torsoElseLimb() {
        HairLine x = new HairLine();
        for (int lane = 0; lane < 6; lane++) {
            x.runner(-10, 1);
            x.shape(lane, lane, TORSO, 0, 0);
            x.shape(lane, lane, LIMB, -1, 1);
            due("its limb ahead", x.shows(0, 9, lane), 10 * lane + 2);
            due("its torso, though its limb covers, too", x.shows(0, 10, lane), 10 * lane + 1);
            due("its limb behind", x.shows(1, 11, lane), 10 * lane + 2);
        }
    }

    /** "HAIR by a SIDE: the first COLUMN with its TORSO in some ROW." */
    private static void hairInFirstAndLastColumn() {
        due("column 0", one(0, 1, 0, 0, 0).of(0, 0), 0);
        due("cut by column 0", one(-2, 1, 0, -9, 9).of(0, 1), 0);
        due("column 299", one(-299, 1, 5, 0, 0).of(0, 0), 299);
        due("column 299, side 1", one(-299, 1, 5, 0, 0).of(0, 1), 299);
        due("column 300", one(-300, 1, 5, 0, 0).of(0, 0), NONE);
        due("column 300, side 1", one(-300, 1, 5, 0, 0).of(0, 1), NONE);
        due("its front just comes", one(-308, 1, 5, -9, 9).of(0, 0), 299);
        due("its front does not", one(-309, 1, 5, -9, 9).of(0, 0), NONE);
        due("over it before column 0", one(0, 1, 0, 1, 9).of(0, 0), NONE);
        due("over it between two columns", one(-10, 20, 0, -9, 9).of(0, 0), NONE);
        HairLine x = one(-20, 1, 0, -5, -5);
        x.shape(0, 5, TORSO, 5, 5);
        due("of two rows the first", x.of(0, 0), 15);
        x.set(0, 3);
        due("row 5 is later now", x.of(0, 0), 25);
    }

    /** "the first COLUMN with its TORSO": not with its LIMB. */
    private static void hairOfATorsoAlone() {
        HairLine x = one(-20, 1, 0, 0, 0);
        x.shape(0, 0, LIMB, -9, 9);
        due("its own limb hides it not", x.of(0, 0), 20);
        x.shape(0, 3, LIMB, -9, 9);
        due("a limb has no hair", x.of(0, 1), 20);
        x.shape(0, 0, TORSO, 1, 0);
        due("by side 0", x.of(0, 0), NONE);
        due("by side 1", x.of(0, 1), NONE);
    }

    /** "JOINED: the lesser one of both SIDES' HAIRS." */
    private static void joinedOfOneSide() {
        HairLine x = one(-20, 1, 0, -2, 2);
        due("both alike", x.of(0, 2), 18);
        x.runner(-20, 1);
        x.shape(1, 0, LIMB, 1, 2);
        due("by side 0", x.of(0, 0), 18);
        due("by side 1", x.of(0, 1), 20);
        due("the lesser one", x.of(0, 2), 18);
        x.shape(1, 0, LIMB, -2, 2);
        due("none by side 1", x.of(0, 1), NONE);
        due("the one there is", x.of(0, 2), 18);
        due("and it is not hidden", x.of(0, 5), 0);
        x.runner(-20, 1);
        x.shape(2, 0, TORSO, -2, 2);
        due("lane 2 by side 0", x.of(2, 0), NONE);
        due("lane 2 by side 1", x.of(2, 1), 18);
        due("the one there is", x.of(2, 2), 18);
        x.shape(0, 0, TORSO, 1, 0);
        due("none of both", x.of(0, 2), NONE);
    }

    /** "at which the front of its TORSO in some ROW is at THE LINE or beyond, upright". */
    private static void frontAtTheLine() {
        due("at the line", one(-23, 10, 0, -5, 3).of(0, 3), 2);
        due("one short", one(-24, 10, 0, -5, 3).of(0, 3), 3);
        due("one beyond", one(-22, 10, 0, -5, 3).of(0, 3), 2);
        HairLine x = one(-40, 10, 1, -5, -1);
        due("-1 by 10", x.of(0, 3), 5);
        for (int row = 0; row < 6; row++) {
            x.shape(0, row, LIMB, 9, 9);
        }
        due("not by a limb", x.of(0, 3), 5);
        due("nor leaned", x.of(0, 4), 5);
        x.shape(0, 4, TORSO, -5, 0);
        due("in some row", x.of(0, 3), 4);
        for (int lean = -3; lean <= 3; lean++) {
            x.set(0, lean);
            due("upright at lean " + lean, x.of(0, 3), 4);
        }
    }

    /** "the least COLUMN (also beyond 299)". */
    private static void trueAtOnceAndFarBeyond() {
        due("at the line at once", one(0, 20, 0, -9, 0).of(0, 3), 0);
        due("beyond at once", one(0, 1, 0, 9, 9).of(0, 3), 0);
        due("one short at first", one(-10, 1, 0, 9, 9).of(0, 3), 1);
        due("one short at first, by 20", one(-10, 20, 0, 9, 9).of(0, 3), 1);
        due("299", one(-299, 1, 0, 0, 0).of(0, 3), 299);
        due("300", one(-300, 1, 0, 0, 0).of(0, 3), 300);
        due("the latest", one(-3000, 1, 0, -9, -9).of(0, 3), 3009);
    }

    /** "LEANED: likewise at the slit as it leans." */
    private static void leanedAtOnceAndFarBeyond() {
        HairLine x = one(-3000, 1, 5, -9, -9);
        due("upright as true", x.of(0, 4), 3009);
        x.set(0, 3);
        due("the latest", x.of(0, 4), 3024);
        x.set(0, -3);
        due("by -15", x.of(0, 4), 2994);
        HairLine y = one(-24, 1, 5, 9, 9);
        y.set(0, -3);
        due("at the slit at once", y.of(0, 4), 0);
        HairLine z = one(-25, 1, 5, 9, 9);
        z.set(0, -3);
        due("one short at first", z.of(0, 4), 1);
        HairLine low = one(-10, 1, 0, 0, 0);
        low.set(0, 3);
        due("row 0 does not lean", low.of(0, 4), 10);
    }

    /** "HIDDEN: no HAIR by either SIDE, or JOINED is later than LEANED." */
    private static void hiddenIsLaterThanLeaned() {
        HairLine x = one(-20, 1, 0, -2, 2);
        due("just at leaned", x.of(0, 5), 0);
        x.runner(-20, 1);
        x.runner(-20, 1);
        x.shape(1, 0, TORSO, -2, 2);
        x.shape(0, 0, LIMB, 2, 2);
        x.shape(0, 0, TORSO, 1, 0);
        x.shape(2, 0, LIMB, 2, 2);
        due("leaned", x.of(1, 4), 18);
        due("joined is one later", x.of(1, 2), 19);
        due("hidden", x.of(1, 5), 1);
        x.shape(2, 0, LIMB, 1, 0);
        due("joined by side 1", x.of(1, 2), 18);
        due("not hidden", x.of(1, 5), 0);
        x.shape(0, 0, LIMB, -9, 9);
        due("no hair by side 0", x.of(1, 0), NONE);
        due("not hidden by that", x.of(1, 5), 0);
        x.shape(2, 0, LIMB, -9, 9);
        due("no hair by either", x.of(1, 2), NONE);
        due("hidden", x.of(1, 5), 1);
    }

    /** "no HAIR by either SIDE": nobody hides it, but it is on no FILM. */
    private static void hiddenBeyondTheFilm() {
        due("column 299", one(-299, 1, 0, 0, 0).of(0, 5), 0);
        due("column 300", one(-300, 1, 0, 0, 0).of(0, 5), 1);
        due("over it before column 0", one(0, 1, 0, 1, 1).of(0, 5), 1);
        due("over it between two columns", one(-10, 20, 0, 0, 0).of(0, 5), 1);
        HairLine x = one(-20, 1, 5, 0, 0);
        x.set(0, 3);
        due("later than true, not than leaned", x.of(0, 5), 0);
    }

    /** "whether HIDDEN (1, 0; 0 without a TORSO)". */
    private static void hiddenWithoutATorso() {
        HairLine x = new HairLine();
        x.runner(-3000, 1);
        due("nothing at all", x.of(0, 5), 0);
        x.shape(0, 0, LIMB, 0, 0);
        due("a limb alone", x.of(0, 5), 0);
        x.shape(0, 0, TORSO, 0, 0);
        due("a torso", x.of(0, 5), 1);
        x.shape(0, 0, TORSO, 1, 0);
        due("none any more", x.of(0, 5), 0);
    }

    /**
     * "two RUNNERS with TORSOS that do not stand to one another by LEANED (ahead, behind, alike) as they do
     * by TRUE": lane 0 in ROW 0 never leans; lane 1 in ROW 5 is moved by 15 to and fro.
     */
    private static void movedByEachChange() {
        int[][] want = {
            // begin of lane 1, LEAN, whether moved
            {-20, 0, 0}, {-20, 1, 1}, {-20, -1, 1},
            {-15, 0, 0}, {-15, 1, 1}, {-15, 2, 1}, {-15, -1, 0},
            {-16, 1, 1}, {-14, 1, 0},
            {-25, 0, 0}, {-25, -1, 1}, {-25, -2, 1}, {-25, 1, 0},
            {-24, -1, 1}, {-26, -1, 0}};
        for (int[] w : want) {
            HairLine x = one(-20, 1, 0, 0, 0);
            x.runner(w[0], 1);
            x.shape(1, 5, TORSO, 0, 0);
            x.set(0, w[1]);
            due("begin " + w[0] + ", lean " + w[1], x.moved(-1), w[2]);
            due("the pair", x.moved(0), w[2] == 1 ? 1 : NONE);
        }
    }

    /** "two RUNNERS with TORSOS". */
    private static void movedWithTorsosAlone() {
        HairLine x = one(-20, 1, 0, 0, 0);
        x.set(0, 1);
        due("alone", x.moved(-1), 0);
        x.runner(-20, 1);
        due("no torso", x.moved(-1), 0);
        x.shape(1, 5, LIMB, 0, 0);
        due("a limb", x.moved(-1), 0);
        x.shape(1, 5, TORSO, 0, 0);
        due("a torso", x.moved(-1), 1);
        x.shape(0, 0, TORSO, 1, 0);
        due("the other's is gone", x.moved(-1), 0);
    }

    /** "by LEANED .. as they do by TRUE": what the FILMS show does not matter. */
    private static void movedByLeanedNotByHairs() {
        HairLine x = one(-20, 1, 0, -2, 2);
        x.runner(-20, 1);
        x.shape(1, 0, TORSO, -5, 2);
        x.runner(-20, 1);
        x.shape(2, 0, TORSO, -2, 2);
        due("the one between shows late", x.of(1, 2), 23);
        due("alike by true and by leaned", x.moved(-1), 0);
        x.set(0, 3);
        due("row 0 does not lean", x.moved(-1), 0);
        x.shape(1, 5, TORSO, 0, 3);
        x.set(0, -1);
        // true 17, leaned 12, against 18 of both others: ahead as before
        due("ahead by both", x.moved(-1), 0);
        x.set(0, 1);
        // leaned 18, by row 0, where it shows in no side's first column
        due("leaned", x.of(1, 4), 18);
        due("joined", x.of(1, 2), 22);
        due("alike now", x.moved(-1), 2);
        due("with lane 0", x.moved(0), 1);
        due("with lane 2", x.moved(1), 12);
    }

    /** "how many (i = -1), the i-th: 10 times the lesser, and the other; NONE." */
    private static void movedNumbers() {
        HairLine x = new HairLine();
        for (int lane = 0; lane < 6; lane++) {
            x.runner(-20, 1);
        }
        x.shape(4, 0, TORSO, 0, 0);
        x.shape(5, 5, TORSO, 0, 0);
        x.set(0, 1);
        due("one", x.moved(-1), 1);
        due("the last two", x.moved(0), 45);
        due("no more", x.moved(1), NONE);
        due("below -1", x.moved(-2), NONE);
        x.shape(0, 5, TORSO, 0, 0);
        due("two", x.moved(-1), 2);
        due("0 and 4", x.moved(0), 4);
        due("4 and 5", x.moved(1), 45);
    }

    /** "which it was. OUTSIDE." */
    private static void setTellsWhatWas() {
        int[] first = {0, 0, 100, 0};
        int[] least = {-3, 0, 0, 0};
        int[] most = {3, 9, 200, 1};
        for (int which = 0; which < 4; which++) {
            HairLine x = new HairLine();
            due("at first", x.set(which, most[which]), first[which]);
            due("one above", x.set(which, most[which] + 1), HairLine.OUTSIDE);
            due("it stays the greatest", x.set(which, least[which]), most[which]);
            due("one below", x.set(which, least[which] - 1), HairLine.OUTSIDE);
            due("it stays the least", x.set(which, least[which]), least[which]);
            due("and again", x.set(which, first[which]), least[which]);
            for (int other = 0; other < 4; other++) {
                due("the others stay", x.told(10 + other), first[other]);
            }
        }
    }

    /** "the first of these that fits: UNKNOWN .., OUTSIDE .., FULL". */
    private static void refusedFirst() {
        HairLine x = new HairLine();
        x.runner(-10, 1);
        due("shape: no such runner, wrong what", x.shape(1, 0, 2, 0, 0), HairLine.UNKNOWN);
        due("shape: no such row, wrong what", x.shape(0, 6, 2, 0, 0), HairLine.UNKNOWN);
        due("shape: no such row, wrong reach", x.shape(0, -1, 0, -10, 10), HairLine.UNKNOWN);
        due("shows: wrong side, no such row", x.shows(2, 0, 6), HairLine.UNKNOWN);
        due("shows: wrong column, no such row", x.shows(0, 300, 6), HairLine.UNKNOWN);
        due("of: no such runner, wrong what", x.of(1, 8), HairLine.UNKNOWN);
        due("of: wrong what", x.of(0, 8), HairLine.OUTSIDE);
        due("of: wrong what", x.of(0, -1), HairLine.OUTSIDE);
        HairLine full = Scenes.FULL.play();
        due("full", full.runner(0, 1), HairLine.FULL);
        due("full, wrong begin", full.runner(1, 1), HairLine.OUTSIDE);
        due("full, wrong speed", full.runner(0, 21), HairLine.OUTSIDE);
    }
}
