/** The edges of section 2 and of promises 8 to 11, each behind the words that name it. */
public final class OrderEdgesTest {
    private static final Check CHECK = new Check("order edges");
    private static final int NONE = HairLine.NONE;
    private static final int TORSO = 0;
    private static final int LIMB = 1;

    public static void main(String[] args) {
        nobodyInOrder();
        orderOfSix();
        withJoinedHairs();
        byHairsThenLanes();
        readTaken();
        noMoreThanRead();
        behindTheOneAhead();
        behindTheFirstOfThatPlace();
        placesAheadOfAll();
        placeRefused();
        stretchOfNothing();
        stretchAtTheFilmsEnds();
        stretchWhetherHiddenOrNot();
        stretchRefused();
        speedsTaken();
        speedsOfNoColumn();
        speedsWhereItBegins();
        speedsNone();
        speedsUpright();
        CHECK.end();
    }

    private static void due(String call, long got, long want) {
        CHECK.due(call, got, want);
    }

    private static void placesAre(String what, HairLine x, int rule, int... want) {
        for (int lane = 0; lane < want.length; lane++) {
            due(what + ", rule " + rule + ", lane " + lane, x.place(lane, rule), want[lane]);
        }
    }

    /** "how many (i = -1), the i-th RUNNER; NONE." */
    private static void nobodyInOrder() {
        HairLine x = new HairLine();
        due("no runners", x.order(-1), 0);
        due("no runners", x.order(0), NONE);
        x.runner(-20, 1);
        due("no torso", x.order(-1), 0);
        due("no torso", x.order(0), NONE);
        due("no place by rule 0", x.place(0, 0), NONE);
        due("no place by rule 1", x.place(0, 1), NONE);
    }

    /** "the i-th RUNNER; NONE": of six there is no seventh. */
    private static void orderOfSix() {
        HairLine x = Scenes.withHairs(60, 50, 40, 30, 20, 10);
        due("how many", x.order(-1), 6);
        for (int i = 0; i < 6; i++) {
            due("order(" + i + ")", x.order(i), 5 - i);
        }
        due("a seventh", x.order(6), NONE);
        due("below -1", x.order(-2), NONE);
    }

    /** "RUNNERS with JOINED HAIRS". */
    private static void withJoinedHairs() {
        HairLine x = Scenes.withHairs(299, 300, 0);
        due("of columns 299, 300, 0", x.order(-1), 2);
        due("column 0", x.order(0), 2);
        due("column 299", x.order(1), 0);
        due("column 300 is not in it", x.order(2), NONE);
        due("nor has it a place", x.place(1, 0), NONE);
        due("the last has one", x.place(0, 0), 2);
    }

    /** "by these, then lanes". */
    private static void byHairsThenLanes() {
        HairLine x = Scenes.withHairs(30, 20, 30, 20, 30, 20);
        int[] want = {1, 3, 5, 0, 2, 4};
        for (int i = 0; i < want.length; i++) {
            due("order(" + i + ")", x.order(i), want[i]);
        }
    }

    /** "READ (0 to 9 COLUMNS; 0 at first)". */
    private static void readTaken() {
        HairLine x = Scenes.withHairs(10, 11, 11);
        due("0 at first", x.told(11), 0);
        placesAre("read 0", x, 0, 1, 2, 2);
        placesAre("read 0", x, 1, 1, 2, 2);
        due("-1", x.set(1, -1), HairLine.OUTSIDE);
        due("10", x.set(1, 10), HairLine.OUTSIDE);
        placesAre("still 0", x, 0, 1, 2, 2);
        due("9", x.set(1, 9), 0);
        placesAre("read 9", x, 0, 1, 1, 1);
        due("0", x.set(1, 0), 9);
        placesAre("read 0 again", x, 1, 1, 2, 2);
    }

    /** "each that is no more than READ behind": as many as READ have its place, one more has not. */
    private static void noMoreThanRead() {
        for (int read = 0; read <= 9; read++) {
            HairLine just = Scenes.withHairs(20, 20 + read);
            just.set(1, read);
            HairLine more = Scenes.withHairs(20, 21 + read);
            more.set(1, read);
            for (int rule = 0; rule < 2; rule++) {
                placesAre("just read " + read, just, rule, 1, 1);
                placesAre("one more than read " + read, more, rule, 1, 2);
            }
        }
    }

    /** "RULE 0: .. behind the one ahead of it in ORDER has its place". */
    private static void behindTheOneAhead() {
        HairLine x = Scenes.withHairs(10, 19, 28, 37, 46, 55);
        x.set(1, 9);
        placesAre("one chain of six", x, 0, 1, 1, 1, 1, 1, 1);
        x.set(1, 8);
        placesAre("no chain", x, 0, 1, 2, 3, 4, 5, 6);
        HairLine y = Scenes.withHairs(10, 12, 15, 17, 20, 22);
        y.set(1, 2);
        placesAre("three chains", y, 0, 1, 1, 3, 3, 5, 5);
    }

    /** "1: that is no more than READ behind the first one of that place". */
    private static void behindTheFirstOfThatPlace() {
        HairLine x = Scenes.withHairs(10, 12, 14, 15, 16, 19);
        x.set(1, 4);
        // 10 to 14, then 15 to 19: the first one of a new place counts anew
        placesAre("by the first", x, 1, 1, 1, 1, 4, 4, 4);
        placesAre("by the one ahead", x, 0, 1, 1, 1, 1, 1, 1);
        x.set(1, 3);
        placesAre("by the first, read 3", x, 1, 1, 1, 3, 3, 3, 6);
    }

    /** "PLACES: 1 more than how many are ahead of all of that place." */
    private static void placesAheadOfAll() {
        HairLine alike = Scenes.withHairs(20, 20, 20, 20, 20, 20);
        placesAre("all alike", alike, 0, 1, 1, 1, 1, 1, 1);
        placesAre("all alike", alike, 1, 1, 1, 1, 1, 1, 1);
        HairLine x = Scenes.withHairs(50, 40, 40, 30, 30, 30);
        placesAre("three, two, one", x, 0, 6, 4, 4, 1, 1, 1);
        placesAre("three, two, one", x, 1, 6, 4, 4, 1, 1, 1);
    }

    /** "NONE: it is not in ORDER. UNKNOWN; OUTSIDE: rule 0, 1." */
    private static void placeRefused() {
        HairLine x = Scenes.withHairs(10, 300);
        due("rule -1", x.place(0, -1), HairLine.OUTSIDE);
        due("rule 2", x.place(0, 2), HairLine.OUTSIDE);
        due("rule 2 of one not in order", x.place(1, 2), HairLine.OUTSIDE);
        due("runner -1", x.place(-1, 0), HairLine.UNKNOWN);
        due("runner 2", x.place(2, 1), HairLine.UNKNOWN);
        due("runner 2, rule 2", x.place(2, 2), HairLine.UNKNOWN);
        due("not in order", x.place(1, 0), NONE);
        due("not in order", x.place(1, 1), NONE);
    }

    private static HairLine limb(int begin, int speed, int row, int from, int to) {
        HairLine x = new HairLine();
        x.runner(begin, speed);
        x.shape(0, row, LIMB, from, to);
        return x;
    }

    /** "COLUMNS .. in which a RUNNER's LIMB COVERS the slit in a ROW": from none to 19. */
    private static void stretchOfNothing() {
        HairLine x = new HairLine();
        x.runner(-20, 1);
        for (int row = 0; row < 6; row++) {
            due("no limb", x.stretch(0, row), 0);
        }
        x.shape(0, 0, TORSO, -9, 9);
        due("a torso is no limb", x.stretch(0, 0), 0);
        x.shape(0, 0, LIMB, 0, 0);
        due("one place", x.stretch(0, 0), 1);
        due("and its own row alone", x.stretch(0, 1), 0);
        x.shape(0, 0, LIMB, -9, 9);
        due("the longest", x.stretch(0, 0), 19);
        x.shape(0, 0, LIMB, 9, -9);
        due("none any more", x.stretch(0, 0), 0);
        due("jumped over", limb(-10, 20, 0, -9, 9).stretch(0, 0), 0);
    }

    /** "COLUMNS of 0 to 299 in which a RUNNER's LIMB COVERS the slit". */
    private static void stretchAtTheFilmsEnds() {
        due("columns 0 to 9", limb(0, 1, 0, -9, 9).stretch(0, 0), 10);
        due("column 0 alone", limb(0, 1, 0, 0, 9).stretch(0, 0), 1);
        due("none: ahead of column 0", limb(0, 1, 0, 1, 9).stretch(0, 0), 0);
        due("columns 0 to 18", limb(-9, 1, 0, -9, 9).stretch(0, 0), 19);
        due("columns 0 to 17", limb(-8, 1, 0, -9, 9).stretch(0, 0), 18);
        due("columns 281 to 299", limb(-290, 1, 0, -9, 9).stretch(0, 0), 19);
        due("columns 282 to 299", limb(-291, 1, 0, -9, 9).stretch(0, 0), 18);
        due("column 299 alone", limb(-308, 1, 0, -9, 9).stretch(0, 0), 1);
        due("none: column 300", limb(-309, 1, 0, -9, 9).stretch(0, 0), 0);
        HairLine x = limb(-299, 1, 5, 0, 0);
        due("column 299", x.stretch(0, 5), 1);
        x.set(0, 1);
        due("column 304", x.stretch(0, 5), 0);
        HairLine y = limb(-14, 1, 5, 0, 0);
        y.set(0, -3);
        due("ahead of column 0", y.stretch(0, 5), 0);
    }

    /** "(whether hidden or not)". */
    private static void stretchWhetherHiddenOrNot() {
        HairLine x = new HairLine();
        for (int lane = 0; lane < 3; lane++) {
            x.runner(-20, 1);
            x.shape(lane, 2, lane == 1 ? LIMB : TORSO, -4, 4);
        }
        due("hidden from both sides", x.shows(0, 20, 2), 1);
        due("hidden from both sides", x.shows(1, 20, 2), 21);
        due("yet it is so long", x.stretch(1, 2), 9);
        x.shape(1, 2, TORSO, -9, 9);
        due("its own torso hides it, too", x.stretch(1, 2), 9);
    }

    /** "STRETCH. UNKNOWN." */
    private static void stretchRefused() {
        HairLine x = limb(-20, 1, 0, 0, 0);
        due("runner -1", x.stretch(-1, 0), HairLine.UNKNOWN);
        due("runner 1", x.stretch(1, 0), HairLine.UNKNOWN);
        due("row -1", x.stretch(0, -1), HairLine.UNKNOWN);
        due("row 6", x.stretch(0, 6), HairLine.UNKNOWN);
        due("row 5", x.stretch(0, 5), 0);
    }

    /** "so long (1 to 19: from and to counted)"; "OUTSIDE: columns 0 to 30." */
    private static void speedsTaken() {
        HairLine x = new HairLine();
        due("length 0", x.speeds(0, 1, 0), HairLine.OUTSIDE);
        due("length 1", x.speeds(1, 1, 0), 1);
        due("length 19", x.speeds(19, 19, 0), 1);
        due("length 20", x.speeds(20, 19, 0), HairLine.OUTSIDE);
        due("columns -1", x.speeds(9, -1, 0), HairLine.OUTSIDE);
        due("columns 0", x.speeds(9, 0, 1), 20);
        due("columns 30", x.speeds(9, 30, 0), NONE);
        due("columns 31", x.speeds(9, 31, 0), HairLine.OUTSIDE);
        due("end -1", x.speeds(9, 3, -1), HairLine.OUTSIDE);
        due("end 2", x.speeds(9, 3, 2), HairLine.OUTSIDE);
        due("none of them matters to a NONE", x.speeds(9, 30, 2), HairLine.OUTSIDE);
    }

    /** A LIMB that is jumped over COVERS in 0 COLUMNS, so it is shorter than the SPEED. */
    private static void speedsOfNoColumn() {
        HairLine x = new HairLine();
        for (int length = 1; length <= 19; length++) {
            due("least by which " + length + " is jumped over", x.speeds(length, 0, 0), length + 1);
            due("greatest", x.speeds(length, 0, 1), 20);
        }
    }

    /** "the least and the greatest SPEED by which it can .., wherever it begins". */
    private static void speedsWhereItBegins() {
        HairLine x = new HairLine();
        due("6 in 3: 2 always, 3 never", x.speeds(6, 3, 1), 2);
        due("6 in 2: 3 always", x.speeds(6, 2, 0), 3);
        due("6 in 2: 5 at times", x.speeds(6, 2, 1), 5);
        due("6 in 1: 4 at times", x.speeds(6, 1, 0), 4);
        due("7 in 3: 3 at times", x.speeds(7, 3, 1), 3);
        due("7 in 4: 2 at times", x.speeds(7, 4, 0), 2);
        due("7 in 4: 2 at times", x.speeds(7, 4, 1), 2);
        due("19 in 1: 10 at times", x.speeds(19, 1, 0), 10);
        due("19 in 1: 20 at times", x.speeds(19, 1, 1), 20);
        due("19 in 10: 2 at times", x.speeds(19, 10, 1), 2);
        due("19 in 9: 2 at times", x.speeds(19, 9, 0), 2);
    }

    /** "in just so many COLUMNS"; "NONE". */
    private static void speedsNone() {
        HairLine x = new HairLine();
        due("one more column than places", x.speeds(19, 20, 0), NONE);
        due("one more column than places", x.speeds(19, 20, 1), NONE);
        due("1 in 2", x.speeds(1, 2, 0), NONE);
        due("between 1 and 2 a column", x.speeds(19, 18, 0), NONE);
        due("between 1 and 2 a column", x.speeds(19, 11, 1), NONE);
        due("at 2 a column", x.speeds(18, 10, 0), NONE);
    }

    /** "an upright slit": whatever LEAN is, and whoever runs. */
    private static void speedsUpright() {
        HairLine x = Scenes.FULL.play();
        for (int lean = -3; lean <= 3; lean++) {
            x.set(0, lean);
            due("least at lean " + lean, x.speeds(9, 3, 0), 3);
            due("greatest at lean " + lean, x.speeds(9, 3, 1), 4);
        }
    }
}
