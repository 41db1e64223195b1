/** The edges of section 3 and of promises 12 to 14, each behind the words that name it. */
public final class GunEdgesTest {
    private static final Check CHECK = new Check("gun edges");
    private static final int NONE = HairLine.NONE;

    public static void main(String[] args) {
        oneGun();
        anotherGun();
        lastLaneGoesOn();
        pushes();
        pushRefused();
        earTaken();
        lessThanHearsAndEar();
        earlyWithoutAPush();
        mendedOfNobody();
        mendedOfSix();
        mendedBelowZero();
        mendedLanes();
        wrongNumbers();
        wrongOfOneEar();
        wrongSureAndNever();
        wrongLowestTerms();
        wrongGreatest();
        CHECK.end();
    }

    private static void due(String call, long got, long want) {
        CHECK.due(call, got, want);
    }

    private static HairLine lanes(int many) {
        HairLine x = new HairLine();
        for (int lane = 0; lane < many; lane++) {
            x.runner(-20, 1);
        }
        return x;
    }

    private static void odds(String what, HairLine x, int from, int to, int n, long upper, long lower) {
        due(what + ", upper", x.wrong(from, to, n, 0), upper);
        due(what + ", lower", x.wrong(from, to, n, 1), lower);
    }

    /** "at lane 0 there is one"; "3 COLUMNS by lane later for each lane that it is off". */
    private static void oneGun() {
        HairLine x = lanes(6);
        due("one gun at first", x.told(13), 0);
        for (int lane = 0; lane < 6; lane++) {
            due("lane " + lane, x.of(lane, 6), 3 * lane);
        }
    }

    /** "perhaps another one at the last lane"; "the nearer gun". */
    private static void anotherGun() {
        HairLine x = lanes(6);
        due("2 guns more", x.set(3, 2), HairLine.OUTSIDE);
        due("-1", x.set(3, -1), HairLine.OUTSIDE);
        due("still one", x.of(5, 6), 15);
        due("another", x.set(3, 1), 0);
        int[] six = {0, 3, 6, 6, 3, 0};
        for (int lane = 0; lane < 6; lane++) {
            due("lane " + lane, x.of(lane, 6), six[lane]);
        }
        due("taken away", x.set(3, 0), 1);
        due("one again", x.of(5, 6), 15);
    }

    /** "another one at the last lane": the last of those that are there by now. */
    private static void lastLaneGoesOn() {
        HairLine x = lanes(1);
        x.set(3, 1);
        due("alone: the first and the last", x.of(0, 6), 0);
        x.runner(-20, 1);
        due("of two the last", x.of(1, 6), 0);
        x.runner(-20, 1);
        due("of three the middle one", x.of(1, 6), 3);
        due("of three the last", x.of(2, 6), 0);
    }

    /** "a COLUMN (0 to 299; none at first)"; "(-1: none): which it was (NONE)." */
    private static void pushes() {
        HairLine x = lanes(6);
        for (int lane = 0; lane < 6; lane++) {
            due("none at first", x.push(lane, 0), NONE);
            due("0 is one", x.push(lane, 299), 0);
            due("299 is one", x.push(lane, -1), 299);
            due("none again", x.push(lane, -1), NONE);
        }
    }

    /** "UNKNOWN; OUTSIDE." */
    private static void pushRefused() {
        HairLine x = lanes(2);
        x.push(1, 5);
        due("-2", x.push(1, -2), HairLine.OUTSIDE);
        due("300", x.push(1, 300), HairLine.OUTSIDE);
        due("runner -1", x.push(-1, 5), HairLine.UNKNOWN);
        due("runner 2", x.push(2, 5), HairLine.UNKNOWN);
        due("runner 2, column 300", x.push(2, 300), HairLine.UNKNOWN);
        due("it stayed", x.push(1, 6), 5);
    }

    /** "EAR (0 to 200; 100 at first)". */
    private static void earTaken() {
        HairLine x = lanes(1);
        due("100 at first", x.told(12), 100);
        x.push(0, 99);
        due("99 at first", x.of(0, 7), 1);
        x.push(0, 100);
        due("100 at first", x.of(0, 7), 0);
        due("-1", x.set(2, -1), HairLine.OUTSIDE);
        due("201", x.set(2, 201), HairLine.OUTSIDE);
        due("200", x.set(2, 200), 100);
        due("100 of 200", x.of(0, 7), 1);
        due("0", x.set(2, 0), 200);
        due("100 of 0", x.of(0, 7), 0);
    }

    /** "EARLY: it is less than HEARS and EAR". */
    private static void lessThanHearsAndEar() {
        for (int ear : new int[] {0, 1, 100, 200}) {
            HairLine x = lanes(6);
            x.set(2, ear);
            for (int lane = 0; lane < 6; lane++) {
                int both = 3 * lane + ear;
                x.push(lane, both);
                due("just both, ear " + ear, x.of(lane, 7), 0);
                if (both > 0) {
                    x.push(lane, both - 1);
                    due("one less, ear " + ear, x.of(lane, 7), 1);
                }
                x.push(lane, 0);
                due("column 0", x.of(lane, 7), both > 0 ? 1 : 0);
                x.push(lane, 299);
                due("column 299", x.of(lane, 7), 0);
            }
        }
        HairLine y = lanes(6);
        y.push(5, 114);
        due("one gun", y.of(5, 7), 1);
        y.set(3, 1);
        due("another one there", y.of(5, 7), 0);
    }

    /** "whether EARLY (NONE: no PUSH)". */
    private static void earlyWithoutAPush() {
        HairLine x = lanes(2);
        due("none at first", x.of(0, 7), NONE);
        x.push(1, 0);
        due("another one's push", x.of(0, 7), NONE);
        due("its own", x.of(1, 7), 1);
        x.push(1, -1);
        due("taken back", x.of(1, 7), NONE);
    }

    /** "the i-th RUNNER; NONE." */
    private static void mendedOfNobody() {
        HairLine x = new HairLine();
        due("no runners", x.mended(0), NONE);
        due("no runners", x.mended(-1), NONE);
        x.runner(-20, 1);
        due("no torso", x.mended(0), NONE);
        HairLine y = Scenes.withHairs(300, 299);
        due("column 299", y.mended(0), 1);
        due("column 300", y.mended(1), NONE);
    }

    /** "the i-th RUNNER; NONE": of six there is no seventh. */
    private static void mendedOfSix() {
        HairLine x = Scenes.withHairs(20, 22, 24, 26, 28, 30);
        // less 3 each: 20, 19, 18, 17, 16, 15
        for (int i = 0; i < 6; i++) {
            due("mended(" + i + ")", x.mended(i), 5 - i);
        }
        due("a seventh", x.mended(6), NONE);
        due("-1", x.mended(-1), NONE);
        due("order is as it was", x.order(0), 0);
    }

    /** "ORDER by JOINED less HEARS": what is below 0 is ahead of 0. */
    private static void mendedBelowZero() {
        HairLine x = Scenes.withHairs(0, 1, 1, 1, 1, 0);
        int[] want = {5, 4, 3, 2, 1, 0};
        for (int i = 0; i < 6; i++) {
            due("mended(" + i + ")", x.mended(i), want[i]);
        }
    }

    /** "MENDED: ORDER by JOINED less HEARS": alike ones by lanes, as in ORDER. */
    private static void mendedLanes() {
        HairLine x = Scenes.withHairs(20, 23, 26, 29, 32, 35);
        for (int i = 0; i < 6; i++) {
            due("alike: by lanes", x.mended(i), i);
        }
        HairLine y = Scenes.withHairs(20, 22, 25, 28, 31, 35);
        int[] want = {1, 2, 3, 4, 0, 5};
        for (int i = 0; i < 6; i++) {
            due("one ahead each", y.mended(i), want[i]);
        }
    }

    /** "from a to b COLUMNS (0 to 200 ..)"; "of n (1 to 6)"; "part 0, 1. OUTSIDE: from above to, too." */
    private static void wrongNumbers() {
        HairLine x = new HairLine();
        int[][] taken = {{0, 0, 1, 0}, {200, 200, 6, 1}, {0, 200, 1, 0}, {0, 200, 6, 1}};
        for (int[] t : taken) {
            CHECK.isTrue("taken", x.wrong(t[0], t[1], t[2], t[3]) >= 0);
        }
        int[][] outside = {{-1, 0, 1, 0}, {0, -1, 1, 0}, {0, 201, 1, 0}, {201, 201, 1, 0}, {1, 0, 1, 0},
            {200, 199, 1, 0}, {0, 0, 0, 0}, {0, 0, 7, 0}, {0, 0, 1, -1}, {0, 0, 1, 2}};
        for (int[] o : outside) {
            due(new Call("wrong", o).written(), x.wrong(o[0], o[1], o[2], o[3]), HairLine.OUTSIDE);
        }
    }

    /** "that one who waits for the gun is called EARLY; of n .. that some one is". */
    private static void wrongOfOneEar() {
        HairLine x = new HairLine();
        for (int n = 1; n <= 6; n++) {
            odds("just one less than the ear", x, 99, 99, n, 1, 1);
            odds("just the ear", x, 100, 100, n, 0, 1);
            odds("one more", x, 101, 101, n, 0, 1);
        }
        odds("one of two", x, 99, 100, 1, 1, 2);
        odds("some one of two", x, 99, 100, 2, 3, 4);
        odds("some one of six", x, 99, 100, 6, 63, 64);
    }

    /** "the odds": from 0 to 1, which are fractions, too. */
    private static void wrongSureAndNever() {
        HairLine x = new HairLine();
        odds("all less than the ear", x, 0, 99, 6, 1, 1);
        odds("none less", x, 100, 200, 6, 0, 1);
        odds("one is not", x, 0, 100, 1, 100, 101);
        odds("one is", x, 99, 200, 1, 1, 102);
        x.set(2, 0);
        odds("an ear of 0", x, 0, 200, 6, 0, 1);
        odds("an ear of 0", x, 0, 0, 1, 0, 1);
        x.set(2, 200);
        odds("an ear of 200", x, 0, 199, 6, 1, 1);
        odds("an ear of 200", x, 200, 200, 6, 0, 1);
        odds("an ear of 200", x, 0, 200, 1, 200, 201);
    }

    /** "in lowest terms". */
    private static void wrongLowestTerms() {
        HairLine x = new HairLine();
        odds("50 of 100", x, 50, 149, 1, 1, 2);
        odds("2 of 6", x, 98, 103, 1, 1, 3);
        odds("1 less 4/6 squared", x, 98, 103, 2, 5, 9);
        odds("4 of 6", x, 96, 101, 1, 2, 3);
        odds("no common divisor", x, 98, 104, 1, 2, 7);
    }

    /** "0 to 200", "of n (1 to 6)": the greatest that can come of it is told whole. */
    private static void wrongGreatest() {
        HairLine x = new HairLine();
        x.set(2, 1);
        // 201 and 200 have no common divisor: the greatest numbers there are
        odds("201 to the sixth", x, 0, 200, 6, 65944160601201L - 64000000000000L, 65944160601201L);
        odds("201 to the fifth", x, 0, 200, 5, 328080401001L - 320000000000L, 328080401001L);
    }
}
