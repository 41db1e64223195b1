import java.util.ArrayDeque;
import java.util.Deque;
import java.util.Random;

/** Runs of calls drawn from fixed seeds, each answered by HairLine and by Plain. */
public final class PlainTest {
    private static final int RUNS = 700;
    private static final int CALLS = 512;
    private static final String[] CALL_NAMES = {
        "runner", "shape", "set", "shows", "of", "moved", "order", "place", "stretch", "speeds", "push", "mended",
        "wrong", "known", "late", "tell", "time", "old", "say", "wipe", "fault", "rule", "record", "slit", "seen",
        "best", "told"};
    /** How often each call is drawn; the dear ones of Plain seldom. */
    private static final int[] WEIGHTS = {
        4, 30, 6, 20, 20, 4, 6, 6, 8, 3, 6, 5, 6, 6, 4, 8, 6, 6, 60, 1, 8, 8, 12, 4, 5, 1, 6};
    private static final String RULE_SIGNS = "twhe<>=-;0123456789";

    private final Random random;
    private final HairLine x = new HairLine();
    private final Plain plain = new Plain();
    /** How wide the beginnings and reaches of this run are drawn, so that runners often meet. */
    private final int farthest;
    private final int reach;
    private final Deque<Character> wanted = new ArrayDeque<>();

    private PlainTest(long seed) {
        random = new Random(seed);
        int[] far = {5, 30, 80, 330, 3000};
        farthest = far[random.nextInt(far.length)];
        reach = 1 + random.nextInt(9);
    }

    public static void main(String[] args) {
        int weights = 0;
        for (int w : WEIGHTS) {
            weights += w;
        }
        long[] drawn = new long[CALL_NAMES.length];
        for (int run = 0; run < RUNS; run++) {
            PlainTest test = new PlainTest(run);
            StringBuilder told = new StringBuilder();
            for (int call = 0; call < CALLS; call++) {
                int which = test.draw(weights);
                drawn[which]++;
                long[] both = test.ask(which, told);
                if (both[0] != both[1]) {
                    System.out.println("run " + run + ": " + told + "answered " + both[0] + ", due is " + both[1]);
                    System.exit(1);
                }
            }
        }
        for (int which = 0; which < drawn.length; which++) {
            if (drawn[which] < RUNS / 10) {
                System.out.println(CALL_NAMES[which] + " was drawn " + drawn[which] + " times only");
                System.exit(1);
            }
        }
        System.out.println("plain: " + (long) RUNS * CALLS + " asked, 0 wrong");
    }

    private int draw(int weights) {
        int at = random.nextInt(weights);
        int which = 0;
        while (at >= WEIGHTS[which]) {
            at -= WEIGHTS[which];
            which++;
        }
        return which;
    }

    /** Mostly within, at times just beyond, seldom far beyond. */
    private int number(int least, int most) {
        int luck = random.nextInt(60);
        if (luck == 0) {
            return least - 1;
        }
        if (luck == 1) {
            return most + 1;
        }
        if (luck == 2) {
            return random.nextInt();
        }
        if (luck == 3) {
            return random.nextBoolean() ? Integer.MIN_VALUE : Integer.MAX_VALUE;
        }
        if (luck < 8) {
            return random.nextBoolean() ? least : most;
        }
        return least + random.nextInt(most - least + 1);
    }

    private int lane() {
        int runners = plain.told(0);
        return random.nextInt(40) == 0 ? number(0, 5) : number(0, Math.max(0, runners - 1));
    }

    /** Signs of a RULE that is planned ahead, at times another one. */
    private int sign() {
        if (wanted.isEmpty()) {
            plan();
        }
        int luck = random.nextInt(80);
        if (luck == 0) {
            return number(33, 126);
        }
        if (luck < 4) {
            return RULE_SIGNS.charAt(random.nextInt(RULE_SIGNS.length()));
        }
        return wanted.isEmpty() ? ';' : wanted.poll();
    }

    private void plan() {
        StringBuilder text = new StringBuilder();
        int lines = 1 + random.nextInt(3);
        for (int line = 0; line < lines; line++) {
            text.append(line == 0 ? "" : ";").append("twhe".charAt(random.nextInt(4)));
            text.append("<>=".charAt(random.nextInt(3))).append(random.nextInt(3) == 0 ? "-" : "");
            int digits = 1 + random.nextInt(4);
            for (int digit = 0; digit < digits; digit++) {
                text.append(random.nextInt(4) == 0 ? random.nextInt(10) : 0);
            }
        }
        for (char sign : text.toString().toCharArray()) {
            wanted.add(sign);
        }
    }

    private static void tell(StringBuilder told, int which, int... args) {
        told.append(CALL_NAMES[which]).append('(');
        for (int i = 0; i < args.length; i++) {
            told.append(i == 0 ? "" : ", ").append(args[i]);
        }
        told.append(") ");
    }

    private static long[] both(long got, long want) {
        return new long[] {got, want};
    }

    private long[] ask(int which, StringBuilder told) {
        if (which < 9) {
            return askFilms(which, told);
        }
        return which < 18 ? askGunsAndJudges(which, told) : askRecordsAndSlits(which, told);
    }

    private long[] askFilms(int which, StringBuilder told) {
        int a = 0;
        int b = 0;
        int c = 0;
        switch (which) {
            case 0:
                a = number(-farthest, 0);
                b = random.nextBoolean() ? number(1, 20) : number(1, 3);
                tell(told, which, a, b);
                return both(x.runner(a, b), plain.runner(a, b));
            case 1:
                a = lane();
                b = number(0, 5);
                c = number(0, 1);
                int d = number(-reach, reach);
                int e = random.nextInt(4) == 0 ? number(-9, 9) : number(Math.min(8, Math.max(-9, d)), 9);
                tell(told, which, a, b, c, d, e);
                return both(x.shape(a, b, c, d, e), plain.shape(a, b, c, d, e));
            case 2:
                a = number(0, 3);
                int[] most = {3, 9, 200, 1};
                b = number(a == 0 ? -3 : 0, a < 0 || a > 3 ? 3 : most[a]);
                tell(told, which, a, b);
                return both(x.set(a, b), plain.set(a, b));
            case 3:
                a = number(0, 1);
                b = random.nextBoolean() ? number(0, Math.min(299, farthest)) : number(0, 299);
                c = number(0, 5);
                tell(told, which, a, b, c);
                return both(x.shows(a, b, c), plain.shows(a, b, c));
            case 4:
                a = lane();
                b = number(0, 7);
                tell(told, which, a, b);
                return both(x.of(a, b), plain.of(a, b));
            case 5:
                a = number(-1, 6);
                tell(told, which, a);
                return both(x.moved(a), plain.moved(a));
            case 6:
                a = number(-1, 6);
                tell(told, which, a);
                return both(x.order(a), plain.order(a));
            case 7:
                a = lane();
                b = number(0, 1);
                tell(told, which, a, b);
                return both(x.place(a, b), plain.place(a, b));
            default:
                a = lane();
                b = number(0, 5);
                tell(told, which, a, b);
                return both(x.stretch(a, b), plain.stretch(a, b));
        }
    }

    private long[] askGunsAndJudges(int which, StringBuilder told) {
        int a = 0;
        int b = 0;
        int c = 0;
        switch (which) {
            case 9:
                a = number(1, 19);
                b = random.nextBoolean() ? number(0, 30) : number(0, 5);
                c = number(0, 1);
                tell(told, which, a, b, c);
                return both(x.speeds(a, b, c), plain.speeds(a, b, c));
            case 10:
                a = lane();
                b = random.nextBoolean() ? number(-1, 299) : number(90, 120);
                tell(told, which, a, b);
                return both(x.push(a, b), plain.push(a, b));
            case 11:
                a = number(-1, 6);
                tell(told, which, a);
                return both(x.mended(a), plain.mended(a));
            case 12:
                a = number(0, 200);
                b = random.nextInt(4) == 0 ? number(0, 200) : number(Math.min(200, Math.max(0, a)), 200);
                c = number(1, 6);
                int d = number(0, 1);
                tell(told, which, a, b, c, d);
                return both(x.wrong(a, b, c, d), plain.wrong(a, b, c, d));
            case 13:
                a = number(0, 3);
                b = number(0, 99999);
                c = random.nextInt(8) == 0 ? number(0, 99999) : b - number(-3, 53);
                tell(told, which, a, b, c);
                return both(x.known(a, b, c), plain.known(a, b, c));
            case 14:
                a = number(0, 3);
                b = number(0, 1);
                tell(told, which, a, b);
                return both(x.late(a, b), plain.late(a, b));
            case 15:
                a = number(0, 3);
                b = random.nextInt(3) == 0 ? -1 : random.nextInt(8) == 0 ? number(0, 99999) : number(0, 60);
                tell(told, which, a, b);
                return both(x.tell(a, b), plain.tell(a, b));
            case 16:
                a = number(0, 1);
                tell(told, which, a);
                return both(x.time(a), plain.time(a));
            default:
                a = random.nextInt(8) == 0 ? number(0, 99999) : number(0, 60);
                tell(told, which, a);
                return both(x.old(a), plain.old(a));
        }
    }

    private int fact() {
        return random.nextBoolean() ? number(-9999, 9999) : number(-2, 2);
    }

    private long[] askRecordsAndSlits(int which, StringBuilder told) {
        int a = 0;
        int b = 0;
        switch (which) {
            case 18:
                a = sign();
                tell(told, which, a);
                return both(x.say(a), plain.say(a));
            case 19:
                tell(told, which);
                wanted.clear();
                return both(x.wipe(), plain.wipe());
            case 20:
                tell(told, which);
                return both(x.fault(), plain.fault());
            case 21:
                tell(told, which);
                long[] answers = both(x.rule(), plain.rule());
                if (answers[0] > 0) {
                    wanted.clear();
                }
                return answers;
            case 22:
                a = fact();
                b = fact();
                int c = fact();
                int d = fact();
                tell(told, which, a, b, c, d);
                return both(x.record(a, b, c, d), plain.record(a, b, c, d));
            case 23:
                a = number(0, 1);
                b = random.nextBoolean() ? number(1, 63) : 1 << random.nextInt(6);
                tell(told, which, a, b);
                return both(x.slit(a, b), plain.slit(a, b));
            case 24:
                a = number(0, (1 << plain.told(1)) - 1);
                b = number(0, 1);
                tell(told, which, a, b);
                return both(x.seen(a, b), plain.seen(a, b));
            case 25:
                a = number(0, 8);
                b = number(0, 1);
                tell(told, which, a, b);
                return both(x.best(a, b), plain.best(a, b));
            default:
                a = random.nextBoolean() ? number(0, 3) : number(10, 13);
                tell(told, which, a);
                return both(x.told(a), plain.told(a));
        }
    }
}
