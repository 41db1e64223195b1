import java.util.ArrayList;
import java.util.Comparator;
import java.util.List;
import java.util.TreeSet;
import java.util.regex.Matcher;
import java.util.regex.Pattern;

/**
 * The document's answers by counting everything out: each COLUMN of each FILM, each hundredth of each
 * span, each set of SLITS. Slow, and of another build than HairLine, so that both go wrong apart.
 */
final class Plain {
    private static final int NONE = -6;
    private static final Pattern RULE =
        Pattern.compile("[twhe][<>=]-?[0-9]{1,4}(;[twhe][<>=]-?[0-9]{1,4})*");

    private static final class Body {
        int begin;
        int speed;
        Integer push;
        /** By part and ROW: from and to, or null. */
        final int[][][] parts = new int[2][6][];

        boolean covers(int what, int row, int column, int place) {
            int[] p = parts[what][row];
            int at = begin + speed * column;
            return p != null && at + p[0] <= place && place <= at + p[1];
        }

        boolean torso() {
            for (int[] p : parts[0]) {
                if (p != null) {
                    return true;
                }
            }
            return false;
        }
    }

    private final List<Body> bodies = new ArrayList<>();
    private final int[] settings = {0, 0, 100, 0};
    private final List<TreeSet<Integer>> late = new ArrayList<>();
    private final Integer[] said = new Integer[4];
    private String signs = "";
    private String rule = null;
    private final List<int[]> slits = new ArrayList<>();

    Plain() {
        for (int judge = 0; judge < 4; judge++) {
            TreeSet<Integer> span = new TreeSet<>();
            for (int v = 0; v <= 50; v++) {
                span.add(v);
            }
            late.add(span);
        }
    }

    private static boolean out(int v, int least, int most) {
        return v < least || v > most;
    }

    int runner(int begin, int speed) {
        if (out(begin, -3000, 0) || out(speed, 1, 20)) {
            return -2;
        }
        if (bodies.size() == 6) {
            return -4;
        }
        Body b = new Body();
        b.begin = begin;
        b.speed = speed;
        bodies.add(b);
        return bodies.size() - 1;
    }

    private boolean noRunner(int runner) {
        return out(runner, 0, bodies.size() - 1);
    }

    int shape(int runner, int row, int what, int from, int to) {
        if (noRunner(runner) || out(row, 0, 5)) {
            return -1;
        }
        if (out(what, 0, 1) || out(from, -9, 9) || out(to, -9, 9)) {
            return -2;
        }
        bodies.get(runner).parts[what][row] = from > to ? null : new int[] {from, to};
        return 1;
    }

    int set(int which, int v) {
        int[] least = {-3, 0, 0, 0};
        int[] most = {3, 9, 200, 1};
        if (out(which, 0, 3) || out(v, least[which], most[which])) {
            return -2;
        }
        int was = settings[which];
        settings[which] = v;
        return was;
    }

    int shows(int side, int column, int row) {
        if (out(row, 0, 5)) {
            return -1;
        }
        if (out(side, 0, 1) || out(column, 0, 299)) {
            return -2;
        }
        int seen = 0;
        // painted from the farthest to the nearest
        for (int i = 0; i < bodies.size(); i++) {
            int lane = side == 1 ? i : bodies.size() - 1 - i;
            for (int what = 1; what >= 0; what--) {
                if (bodies.get(lane).covers(what, row, column, settings[0] * row)) {
                    seen = 10 * lane + 1 + what;
                }
            }
        }
        return seen;
    }

    private int hair(int side, int rows, int lane) {
        for (int column = 0; column < 300; column++) {
            for (int row = 0; row < 6; row++) {
                if ((rows & 1 << row) != 0 && shows(side, column, row) == 10 * lane + 1) {
                    return column;
                }
            }
        }
        return NONE;
    }

    private static int lesser(int a, int b) {
        return a == NONE ? b : b == NONE ? a : Math.min(a, b);
    }

    private int joined(int lane) {
        return lesser(hair(0, 63, lane), hair(1, 63, lane));
    }

    private int crossed(int lane, int lean) {
        Body b = bodies.get(lane);
        for (int column = 0; column < 4000; column++) {
            for (int row = 0; row < 6; row++) {
                int[] p = b.parts[0][row];
                if (p != null && b.begin + b.speed * column + p[1] >= lean * row) {
                    return column;
                }
            }
        }
        return NONE;
    }

    private int hears(int lane) {
        int off = lane;
        if (settings[3] == 1) {
            off = Math.min(off, bodies.size() - 1 - lane);
        }
        return 3 * off;
    }

    int of(int runner, int what) {
        if (noRunner(runner)) {
            return -1;
        }
        Body b = bodies.get(runner);
        switch (what) {
            case 0:
            case 1:
                return hair(what, 63, runner);
            case 2:
                return joined(runner);
            case 3:
                return crossed(runner, 0);
            case 4:
                return crossed(runner, settings[0]);
            case 5:
                int joined = joined(runner);
                return b.torso() && (joined == NONE || joined > crossed(runner, settings[0])) ? 1 : 0;
            case 6:
                return hears(runner);
            case 7:
                return b.push == null ? NONE : b.push < hears(runner) + settings[2] ? 1 : 0;
            default:
                return -2;
        }
    }

    int moved(int i) {
        List<Integer> pairs = new ArrayList<>();
        for (int a = 0; a < bodies.size(); a++) {
            for (int b = a + 1; b < bodies.size(); b++) {
                if (bodies.get(a).torso() && bodies.get(b).torso()) {
                    int truly = Integer.signum(crossed(a, 0) - crossed(b, 0));
                    int leaned = Integer.signum(crossed(a, settings[0]) - crossed(b, settings[0]));
                    if (truly != leaned) {
                        pairs.add(10 * a + b);
                    }
                }
            }
        }
        return i == -1 ? pairs.size() : ith(pairs, i);
    }

    private static int ith(List<Integer> list, int i) {
        return i >= 0 && i < list.size() ? list.get(i) : NONE;
    }

    private List<Integer> ranked(boolean mended) {
        List<Integer> lanes = new ArrayList<>();
        int[] key = new int[6];
        for (int lane = 0; lane < bodies.size(); lane++) {
            int joined = joined(lane);
            if (joined != NONE) {
                lanes.add(lane);
                key[lane] = mended ? joined - hears(lane) : joined;
            }
        }
        lanes.sort(Comparator.comparingInt((Integer lane) -> key[lane]).thenComparingInt(lane -> lane));
        return lanes;
    }

    int order(int i) {
        List<Integer> lanes = ranked(false);
        return i == -1 ? lanes.size() : ith(lanes, i);
    }

    int place(int runner, int rule) {
        if (noRunner(runner)) {
            return -1;
        }
        if (out(rule, 0, 1)) {
            return -2;
        }
        List<List<Integer>> groups = new ArrayList<>();
        for (int lane : ranked(false)) {
            List<Integer> last = groups.isEmpty() ? null : groups.get(groups.size() - 1);
            int against = last == null ? 0 : joined(rule == 0 ? last.get(last.size() - 1) : last.get(0));
            if (last == null || joined(lane) - against > settings[1]) {
                last = new ArrayList<>();
                groups.add(last);
            }
            last.add(lane);
        }
        int ahead = 0;
        for (List<Integer> group : groups) {
            if (group.contains(runner)) {
                return ahead + 1;
            }
            ahead += group.size();
        }
        return NONE;
    }

    int stretch(int runner, int row) {
        if (noRunner(runner) || out(row, 0, 5)) {
            return -1;
        }
        int found = 0;
        for (int column = 0; column < 300; column++) {
            if (bodies.get(runner).covers(1, row, column, settings[0] * row)) {
                found++;
            }
        }
        return found;
    }

    int speeds(int length, int columns, int end) {
        if (out(length, 1, 19) || out(columns, 0, 30) || out(end, 0, 1)) {
            return -2;
        }
        TreeSet<Integer> fit = new TreeSet<>();
        for (int speed = 1; speed <= 20; speed++) {
            for (int begin = -60; begin < -40; begin++) {
                int over = 0;
                for (int at = begin; at < 40; at += speed) {
                    over += at >= 0 && at < length ? 1 : 0;
                }
                if (over == columns) {
                    fit.add(speed);
                }
            }
        }
        return fit.isEmpty() ? NONE : end == 0 ? fit.first() : fit.last();
    }

    int push(int runner, int column) {
        if (noRunner(runner)) {
            return -1;
        }
        if (out(column, -1, 299)) {
            return -2;
        }
        Integer was = bodies.get(runner).push;
        bodies.get(runner).push = column == -1 ? null : column;
        return was == null ? NONE : was;
    }

    int mended(int i) {
        return ith(ranked(true), i);
    }

    long wrong(int from, int to, int n, int part) {
        if (out(from, 0, 200) || out(to, 0, 200) || from > to || out(n, 1, 6) || out(part, 0, 1)) {
            return -2;
        }
        int fine = 0;
        for (int ear = from; ear <= to; ear++) {
            fine += ear < settings[2] ? 0 : 1;
        }
        java.math.BigInteger all = java.math.BigInteger.valueOf(to - from + 1).pow(n);
        java.math.BigInteger some = all.subtract(java.math.BigInteger.valueOf(fine).pow(n));
        return (part == 0 ? some : all).divide(some.gcd(all)).longValueExact();
    }

    int known(int judge, int told, int truly) {
        if (out(judge, 0, 3)) {
            return -1;
        }
        if (out(told, 0, 99999) || out(truly, 0, 99999)) {
            return -2;
        }
        TreeSet<Integer> both = new TreeSet<>(late.get(judge));
        both.removeIf(v -> Math.abs(v - (told - truly)) > 1);
        if (both.isEmpty()) {
            return -5;
        }
        late.set(judge, both);
        return 1;
    }

    int late(int judge, int end) {
        if (out(judge, 0, 3)) {
            return -1;
        }
        if (out(end, 0, 1)) {
            return -2;
        }
        return end == 0 ? late.get(judge).first() : late.get(judge).last();
    }

    int tell(int judge, int time) {
        if (out(judge, 0, 3)) {
            return -1;
        }
        if (out(time, -1, 99999)) {
            return -2;
        }
        Integer was = said[judge];
        said[judge] = time == -1 ? null : time;
        return was == null ? NONE : was;
    }

    /** The times that all who told allow; null, if nobody did. */
    private TreeSet<Integer> truth() {
        TreeSet<Integer> times = null;
        for (int judge = 0; judge < 4; judge++) {
            if (said[judge] != null) {
                TreeSet<Integer> by = new TreeSet<>();
                for (int v : late.get(judge)) {
                    by.add(said[judge] - v);
                }
                if (times == null) {
                    times = by;
                } else {
                    times.retainAll(by);
                }
            }
        }
        return times;
    }

    int time(int end) {
        if (out(end, 0, 1)) {
            return -2;
        }
        TreeSet<Integer> times = truth();
        if (times == null) {
            return -3;
        }
        return times.isEmpty() ? -5 : 1000000 + (end == 0 ? times.first() : times.last());
    }

    int old(int time) {
        if (out(time, 0, 99999)) {
            return -2;
        }
        TreeSet<Integer> times = truth();
        if (times == null) {
            return -3;
        }
        if (times.isEmpty()) {
            return -5;
        }
        boolean all = true;
        boolean some = false;
        for (int t : times) {
            all &= t < time;
            some |= t < time;
        }
        return all ? 1 : some ? 2 : 0;
    }

    int say(int sign) {
        if (out(sign, 33, 126)) {
            return -2;
        }
        if (signs.length() == 30) {
            return -4;
        }
        signs += (char) sign;
        return signs.length();
    }

    int wipe() {
        int were = signs.length();
        signs = "";
        return were;
    }

    int fault() {
        for (int i = 1; i <= signs.length(); i++) {
            Matcher m = RULE.matcher(signs.substring(0, i));
            if (!m.matches() && !m.hitEnd()) {
                return i - 1;
            }
        }
        return RULE.matcher(signs).matches() ? NONE : signs.length();
    }

    int rule() {
        if (!RULE.matcher(signs).matches()) {
            return -5;
        }
        rule = signs;
        signs = "";
        return rule.split(";").length;
    }

    int record(int time, int wind, int height, int early) {
        int[] facts = {time, wind, height, early};
        for (int fact : facts) {
            if (out(fact, -9999, 9999)) {
                return -2;
            }
        }
        if (rule == null) {
            return -3;
        }
        String[] lines = rule.split(";");
        for (int i = 0; i < lines.length; i++) {
            int sign = Integer.signum(facts["twhe".indexOf(lines[i].charAt(0))] - Integer.parseInt(lines[i].substring(2)));
            if (sign != "<=>".indexOf(lines[i].charAt(1)) - 1) {
                return i;
            }
        }
        return NONE;
    }

    int slit(int side, int rows) {
        if (out(side, 0, 1) || out(rows, 1, 63)) {
            return -2;
        }
        if (slits.size() == 8) {
            return -4;
        }
        slits.add(new int[] {side, rows});
        return slits.size() - 1;
    }

    /** By SLIT and lane: the first COLUMN with that TORSO. */
    private int[][] firsts() {
        int[][] first = new int[slits.size()][bodies.size()];
        for (int i = 0; i < slits.size(); i++) {
            for (int lane = 0; lane < bodies.size(); lane++) {
                first[i][lane] = hair(slits.get(i)[0], slits.get(i)[1], lane);
            }
        }
        return first;
    }

    private int lanesSeen(int set, int[][] firsts) {
        int lanes = 0;
        for (int lane = 0; lane < bodies.size(); lane++) {
            int first = NONE;
            for (int i = 0; i < slits.size(); i++) {
                if ((set & 1 << i) != 0) {
                    first = lesser(first, firsts[i][lane]);
                }
            }
            if (first != NONE && first == crossed(lane, settings[0])) {
                lanes |= 1 << lane;
            }
        }
        return lanes;
    }

    private int untold(int lanes) {
        int pairs = 0;
        for (int a = 0; a < bodies.size(); a++) {
            for (int b = a + 1; b < bodies.size(); b++) {
                boolean both = (lanes & 1 << a) != 0 && (lanes & 1 << b) != 0;
                if (bodies.get(a).torso() && bodies.get(b).torso() && !both) {
                    pairs++;
                }
            }
        }
        return pairs;
    }

    int seen(int set, int what) {
        if (set < 0 || set >= 1 << slits.size() || out(what, 0, 1)) {
            return -2;
        }
        int lanes = lanesSeen(set, firsts());
        return what == 0 ? lanes : untold(lanes);
    }

    int best(int k, int what) {
        if (out(k, 0, 8) || out(what, 0, 1)) {
            return -2;
        }
        int[][] firsts = firsts();
        List<int[]> sets = new ArrayList<>();
        for (int set = 0; set < 1 << slits.size(); set++) {
            if (Integer.bitCount(set) <= k) {
                sets.add(new int[] {untold(lanesSeen(set, firsts)), Integer.bitCount(set), set});
            }
        }
        sets.sort((a, b) -> a[0] != b[0] ? a[0] - b[0] : a[1] != b[1] ? a[1] - b[1] : a[2] - b[2]);
        return what == 0 ? sets.get(0)[2] : sets.get(0)[0];
    }

    int told(int what) {
        switch (what) {
            case 0:
                return bodies.size();
            case 1:
                return slits.size();
            case 2:
                return signs.length();
            case 3:
                return rule == null ? 0 : rule.split(";").length;
            default:
                return out(what, 10, 13) ? -2 : settings[what - 10];
        }
    }
}
