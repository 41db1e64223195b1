import java.math.BigInteger;

/** Promises 12 to 14: push, mended, wrong; and HEARS and EARLY of promise 6. */
public final class GunsTest {
    private static final Check CHECK = new Check("guns");
    private static final int MIN = Integer.MIN_VALUE;
    private static final int MAX = Integer.MAX_VALUE;

    public static void main(String[] args) {
        hears();
        push();
        early();
        mended();
        mendedLikeKeys();
        wrong();
        wrongOfMany();
        wrongRefused();
        CHECK.end();
    }

    private static void due(String call, long got, long want) {
        CHECK.due(call, got, want);
    }

    private static void hears() {
        HairLine x = new HairLine();
        x.runner(0, 1);
        x.set(3, 1);
        due("alone, two guns", x.of(0, 6), 0);
        for (int lane = 1; lane < 5; lane++) {
            x.runner(0, 1);
        }
        int[] two = {0, 3, 6, 3, 0};
        for (int lane = 0; lane < 5; lane++) {
            due("two guns, five lanes", x.of(lane, 6), two[lane]);
        }
        x.runner(0, 1);
        int[] six = {0, 3, 6, 6, 3, 0};
        for (int lane = 0; lane < 6; lane++) {
            due("two guns, six lanes", x.of(lane, 6), six[lane]);
        }
        x.set(3, 0);
        for (int lane = 0; lane < 6; lane++) {
            due("one gun", x.of(lane, 6), 3 * lane);
        }
    }

    private static void push() {
        HairLine x = new HairLine();
        x.runner(-5, 1);
        x.runner(-5, 1);
        due("none at first", x.push(0, 0), HairLine.NONE);
        due("was 0", x.push(0, 299), 0);
        due("was 299", x.push(0, -1), 299);
        due("was none", x.push(0, -1), HairLine.NONE);
        due("was none", x.push(0, 7), HairLine.NONE);
        due("column 300", x.push(0, 300), HairLine.OUTSIDE);
        due("column -2", x.push(0, -2), HairLine.OUTSIDE);
        due("column MIN", x.push(0, MIN), HairLine.OUTSIDE);
        due("column MAX", x.push(0, MAX), HairLine.OUTSIDE);
        due("the other has none", x.push(1, 1), HairLine.NONE);
        due("the first stays", x.push(0, 8), 7);
        due("runner 2", x.push(2, 0), HairLine.UNKNOWN);
        due("runner -1 and wrong", x.push(-1, 300), HairLine.UNKNOWN);
        due("runner MAX", x.push(MAX, 0), HairLine.UNKNOWN);
    }

    private static void early() {
        HairLine x = new HairLine();
        x.runner(0, 1);
        x.runner(0, 1);
        due("no push", x.of(1, 7), HairLine.NONE);
        x.push(1, 102);
        due("102 of 103", x.of(1, 7), 1);
        x.push(1, 103);
        due("103 of 103", x.of(1, 7), 0);
        x.set(3, 1);
        x.push(1, 99);
        due("99 of 100", x.of(1, 7), 1);
        x.push(1, 100);
        due("100 of 100", x.of(1, 7), 0);
        x.set(2, 0);
        x.push(0, 0);
        due("an ear of 0", x.of(0, 7), 0);
        x.push(1, -1);
        due("taken back", x.of(1, 7), HairLine.NONE);
    }

    private static void mended() {
        HairLine x = Scenes.withHairs(50, 51, 52, 62, 300, 60);
        // less 0, 3, 6, 9, -, 15: 50, 48, 46, 53, -, 45
        int[] want = {5, 2, 1, 0, 3};
        for (int i = 0; i < want.length; i++) {
            due("mended(" + i + ")", x.mended(i), want[i]);
        }
        due("mended(5)", x.mended(5), HairLine.NONE);
        due("mended(6)", x.mended(6), HairLine.NONE);
        due("mended(-1)", x.mended(-1), HairLine.NONE);
        due("mended(MIN)", x.mended(MIN), HairLine.NONE);
        due("mended(MAX)", x.mended(MAX), HairLine.NONE);
        due("order is not mended", x.order(0), 0);
        due("place is not mended", x.place(0, 0), 1);
        x.set(3, 1);
        // less 0, 3, 6, 6, -, 0: 50, 48, 46, 56, -, 60
        int[] two = {2, 1, 0, 3, 5};
        for (int i = 0; i < two.length; i++) {
            due("mended with two guns " + i, x.mended(i), two[i]);
        }
    }

    private static void mendedLikeKeys() {
        HairLine x = Scenes.withHairs(0, 3, 5, 9, 12);
        // 0, 0, -1, 0, 0
        int[] want = {2, 0, 1, 3, 4};
        for (int i = 0; i < want.length; i++) {
            due("like keys " + i, x.mended(i), want[i]);
        }
    }

    private static void wrong() {
        HairLine x = new HairLine();
        due("99 of 201 less than 100: 100/201", x.wrong(0, 200, 1, 0), 100);
        due("lower", x.wrong(0, 200, 1, 1), 201);
        due("at the ear, not less", x.wrong(100, 100, 1, 0), 0);
        due("lower of 0", x.wrong(100, 100, 6, 1), 1);
        due("just less", x.wrong(99, 99, 6, 0), 1);
        due("lower of 1", x.wrong(99, 99, 6, 1), 1);
        // 10 of 20 are less: 1 - 1/64
        due("six of them", x.wrong(90, 109, 6, 0), 63);
        due("six of them", x.wrong(90, 109, 6, 1), 64);
        // 4 of 6 are less: 1 - 1/9
        due("two of them", x.wrong(96, 101, 2, 0), 8);
        due("two of them", x.wrong(96, 101, 2, 1), 9);
        // 6 of 8: 3/4
        due("lowest terms", x.wrong(94, 101, 1, 0), 3);
        due("lowest terms", x.wrong(94, 101, 1, 1), 4);
        x.set(2, 200);
        due("one of 201 is not", x.wrong(0, 200, 6, 1), 65944160601201L);
        due("one of 201 is not", x.wrong(0, 200, 6, 0), 65944160601200L);
        x.set(2, 0);
        due("an ear of 0", x.wrong(0, 200, 6, 0), 0);
        due("an ear of 0", x.wrong(0, 200, 6, 1), 1);
        x.runner(0, 1);
        x.runner(0, 1);
        x.set(2, 1);
        due("where they hear it does not matter", x.wrong(0, 1, 1, 0), 1);
        due("where they hear it does not matter", x.wrong(0, 1, 1, 1), 2);
    }

    private static void wrongOfMany() {
        int[] ears = {0, 1, 50, 100, 137, 199, 200};
        for (int ear : ears) {
            for (int from = 0; from <= 200; from += 23) {
                HairLine x = new HairLine();
                x.set(2, ear);
                for (int to = from; to <= 200; to += 7) {
                    int n = 1 + (from + to) % 6;
                    BigInteger[] want = counted(from, to, n, ear);
                    due("upper " + from + ", " + to + ", " + n, x.wrong(from, to, n, 0), want[0].longValueExact());
                    due("lower " + from + ", " + to + ", " + n, x.wrong(from, to, n, 1), want[1].longValueExact());
                }
            }
        }
    }

    private static BigInteger[] counted(int from, int to, int n, int ear) {
        long fine = 0;
        for (int taken = from; taken <= to; taken++) {
            if (taken >= ear) {
                fine++;
            }
        }
        BigInteger all = BigInteger.valueOf(to - from + 1).pow(n);
        BigInteger some = all.subtract(BigInteger.valueOf(fine).pow(n));
        BigInteger common = all.gcd(some);
        return new BigInteger[] {some.divide(common), all.divide(common)};
    }

    private static void wrongRefused() {
        HairLine x = new HairLine();
        int[][] wrong = {{-1, 5, 1, 0}, {5, 201, 1, 0}, {6, 5, 1, 0}, {5, 6, 0, 0}, {5, 6, 7, 0}, {5, 6, 1, 2},
                {5, 6, 1, -1}, {201, 201, 1, 0}, {MIN, MAX, 1, 0}, {MAX, MIN, 1, 0}, {0, 1, MAX, 0}, {0, 1, MIN, 0}};
        for (int[] w : wrong) {
            due("wrong refused", x.wrong(w[0], w[1], w[2], w[3]), HairLine.OUTSIDE);
        }
    }
}
