/** Promises 8 to 11: order, place, stretch, speeds. */
public final class OrdersTest {
    private static final Check CHECK = new Check("orders");
    private static final int MIN = Integer.MIN_VALUE;
    private static final int MAX = Integer.MAX_VALUE;

    public static void main(String[] args) {
        order();
        orderByHairsNotTruth();
        places();
        placesApart();
        placeWrong();
        stretch();
        stretchEnds();
        speeds();
        speedsOfAll();
        speedsWrong();
        CHECK.end();
    }

    private static void due(String call, long got, long want) {
        CHECK.due(call, got, want);
    }

    private static void order() {
        HairLine x = Scenes.withHairs(50, 40, 50, 30, 300, 40);
        int[] want = {3, 1, 5, 0, 2};
        due("how many", x.order(-1), 5);
        for (int i = 0; i < want.length; i++) {
            due("order(" + i + ")", x.order(i), want[i]);
        }
        due("order(5)", x.order(5), HairLine.NONE);
        due("order(6)", x.order(6), HairLine.NONE);
        due("order(-2)", x.order(-2), HairLine.NONE);
        due("order(MIN)", x.order(MIN), HairLine.NONE);
        due("order(MAX)", x.order(MAX), HairLine.NONE);
        x.shape(3, 3, 0, 1, 0);
        due("one less", x.order(-1), 4);
        due("the next is first", x.order(0), 1);
    }

    private static void orderByHairsNotTruth() {
        HairLine x = new HairLine();
        x.runner(-20, 1);
        x.runner(-22, 1);
        x.runner(-20, 1);
        // lane 1 is hidden from both sides until columns 11 to 29 are over
        x.shape(0, 0, 0, -9, 0);
        x.shape(0, 0, 1, -9, 9);
        x.shape(1, 0, 0, -9, 9);
        x.shape(2, 0, 1, -9, 9);
        due("true of lane 1", x.of(1, 3), 13);
        due("joined of lane 1", x.of(1, 2), 30);
        due("order(0)", x.order(0), 0);
        due("order(1)", x.order(1), 1);
        due("order(-1)", x.order(-1), 2);
    }

    private static void places() {
        HairLine x = Scenes.withHairs(10, 12, 14, 14, 17, 30);
        int[] apart = {1, 2, 3, 3, 5, 6};
        int[] chained = {1, 1, 1, 1, 5, 6};
        int[] byFirst = {1, 1, 3, 3, 5, 6};
        for (int lane = 0; lane < 6; lane++) {
            due("read 0, rule 0, " + lane, x.place(lane, 0), apart[lane]);
            due("read 0, rule 1, " + lane, x.place(lane, 1), apart[lane]);
        }
        x.set(1, 2);
        for (int lane = 0; lane < 6; lane++) {
            due("read 2, rule 0, " + lane, x.place(lane, 0), chained[lane]);
            due("read 2, rule 1, " + lane, x.place(lane, 1), byFirst[lane]);
        }
        x.set(1, 9);
        int[] wide = {1, 1, 1, 1, 1, 6};
        for (int lane = 0; lane < 6; lane++) {
            due("read 9, rule 0, " + lane, x.place(lane, 0), wide[lane]);
            due("read 9, rule 1, " + lane, x.place(lane, 1), wide[lane]);
        }
    }

    private static void placesApart() {
        // lanes against the order, and a new place's first one counts anew
        HairLine x = Scenes.withHairs(29, 26, 23, 20, 17, 14);
        x.set(1, 3);
        int[] byFirst = {5, 5, 3, 3, 1, 1};
        for (int lane = 0; lane < 6; lane++) {
            due("rule 0, " + lane, x.place(lane, 0), 1);
            due("rule 1, " + lane, x.place(lane, 1), byFirst[lane]);
        }
    }

    private static void placeWrong() {
        HairLine x = Scenes.withHairs(10);
        x.runner(-20, 1);
        due("in order", x.place(0, 0), 1);
        due("not in order", x.place(1, 0), HairLine.NONE);
        due("not in order, rule 1", x.place(1, 1), HairLine.NONE);
        due("rule 2", x.place(0, 2), HairLine.OUTSIDE);
        due("rule -1", x.place(0, -1), HairLine.OUTSIDE);
        due("rule 2 of one not in order", x.place(1, 2), HairLine.OUTSIDE);
        due("runner 2", x.place(2, 0), HairLine.UNKNOWN);
        due("runner -1, rule 2", x.place(-1, 2), HairLine.UNKNOWN);
        due("MAX", x.place(MAX, MAX), HairLine.UNKNOWN);
        x.shape(0, 0, 0, 1, 0);
        due("no more in order", x.place(0, 0), HairLine.NONE);
    }

    private static void stretch() {
        HairLine x = new HairLine();
        x.runner(-50, 3);
        x.runner(-50, 3);
        x.shape(0, 2, 1, -4, 4);
        x.shape(1, 2, 1, -4, 5);
        // -4 <= -50 + 3c <= 4: 16 to 18; by place: c from ceil(46/3) to floor(54/3)
        due("nine by three", x.stretch(0, 2), 3);
        // -5 <= ..: c from 45/3
        due("ten by three, hidden or not", x.stretch(1, 2), 4);
        due("a row without", x.stretch(0, 1), 0);
        x.set(0, 1);
        // place 2: 48 to 56: 16 to 18
        due("leaned", x.stretch(0, 2), 3);
        // 47 to 56
        due("leaned", x.stretch(1, 2), 3);
        x.shape(0, 2, 0, -9, 9);
        due("a torso does not count", x.stretch(0, 2), 3);
        due("runner 2", x.stretch(2, 0), HairLine.UNKNOWN);
        due("runner -1", x.stretch(-1, 0), HairLine.UNKNOWN);
        due("row 6", x.stretch(0, 6), HairLine.UNKNOWN);
        due("row -1", x.stretch(0, -1), HairLine.UNKNOWN);
        due("MIN", x.stretch(MIN, MAX), HairLine.UNKNOWN);
    }

    private static void stretchEnds() {
        HairLine x = new HairLine();
        x.runner(0, 1);
        x.runner(-299, 1);
        x.runner(-2999, 10);
        x.shape(0, 0, 1, -9, 9);
        due("cut by the film's beginning", x.stretch(0, 0), 10);
        x.shape(1, 0, 1, -9, 9);
        due("cut by the film's end", x.stretch(1, 0), 10);
        x.shape(2, 0, 1, 0, 0);
        due("odd", x.stretch(2, 0), 0);
        x.shape(2, 0, 1, 9, 9);
        due("column 299", x.stretch(2, 0), 1);
        x.shape(2, 0, 1, -1, -1);
        due("column 300", x.stretch(2, 0), 0);
        x.shape(0, 0, 1, 1, 9);
        due("gone ahead of the film", x.stretch(0, 0), 0);
    }

    private static void speeds() {
        HairLine x = new HairLine();
        due("10 in 3, least", x.speeds(10, 3, 0), 3);
        due("10 in 3, greatest", x.speeds(10, 3, 1), 4);
        due("10 in 2, least", x.speeds(10, 2, 0), 4);
        due("10 in 2, greatest", x.speeds(10, 2, 1), 9);
        due("10 in 1, least", x.speeds(10, 1, 0), 6);
        due("10 in 1, greatest", x.speeds(10, 1, 1), 20);
        due("10 in 0, least", x.speeds(10, 0, 0), 11);
        due("10 in 0, greatest", x.speeds(10, 0, 1), 20);
        due("19 in 0, least", x.speeds(19, 0, 0), 20);
        due("19 in 19, least", x.speeds(19, 19, 0), 1);
        due("19 in 19, greatest", x.speeds(19, 19, 1), 1);
        due("19 in 11", x.speeds(19, 11, 0), HairLine.NONE);
        due("19 in 11", x.speeds(19, 11, 1), HairLine.NONE);
        due("1 in 1, least", x.speeds(1, 1, 0), 1);
        due("1 in 1, greatest", x.speeds(1, 1, 1), 20);
        due("1 in 0, least", x.speeds(1, 0, 0), 2);
        due("1 in 30", x.speeds(1, 30, 0), HairLine.NONE);
    }

    /** Each one counted out: a limb that begins far ahead of the slit, at each of so many beginnings. */
    private static void speedsOfAll() {
        for (int length = 1; length <= 19; length++) {
            HairLine x = new HairLine();
            for (int columns = 0; columns <= 30; columns++) {
                int least = HairLine.NONE;
                int greatest = HairLine.NONE;
                for (int speed = 1; speed <= 20; speed++) {
                    if (counted(length, columns, speed)) {
                        least = least == HairLine.NONE ? speed : least;
                        greatest = speed;
                    }
                }
                due("least of " + length + " in " + columns, x.speeds(length, columns, 0), least);
                due("greatest of " + length + " in " + columns, x.speeds(length, columns, 1), greatest);
            }
        }
    }

    private static boolean counted(int length, int columns, int speed) {
        for (int begin = -100; begin < -80; begin++) {
            int over = 0;
            for (int at = begin; at <= 100; at += speed) {
                if (at >= 0 && at < length) {
                    over++;
                }
            }
            if (over == columns) {
                return true;
            }
        }
        return false;
    }

    private static void speedsWrong() {
        HairLine x = new HairLine();
        int[][] wrong = {{0, 1, 0}, {20, 1, 0}, {9, -1, 0}, {9, 31, 0}, {9, 1, -1}, {9, 1, 2},
                {MIN, 1, 0}, {MAX, 1, 0}, {9, MIN, 0}, {9, MAX, 0}, {9, 1, MAX}, {0, 31, 2}};
        for (int[] w : wrong) {
            due("speeds wrong", x.speeds(w[0], w[1], w[2]), HairLine.OUTSIDE);
        }
    }
}
