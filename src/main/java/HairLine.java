/**
 * A finish seen through a slit: runners, films of both sides, orders, guns,
 * judges' thumbs, rules for records, and slits to set. ../shared/DOC.md says
 * what each call answers; the words in capitals are that document's.
 */
public final class HairLine {
    public static final int UNKNOWN = -1, OUTSIDE = -2, STATE = -3, FULL = -4, NO = -5, NONE = -6;

    private static final int MOST_RUNNERS = 6;
    private static final int ROWS = 6;
    private static final int COLUMNS = 300;
    private static final int TORSO = 0;
    private static final int LIMB = 1;

    private static final int SETTINGS = 4;
    private static final int LEAN = 0;
    private static final int READ = 1;
    private static final int EAR = 2;
    private static final int OTHER_GUN = 3;
    private static final int FIRST_EAR = 100;
    private static final int[] SETTING_LEAST = {-3, 0, 0, 0};
    private static final int[] SETTING_MOST = {3, 9, 200, 1};

    private static final int MOST_SPEED = 20;
    private static final int MOST_LENGTH = 19;
    private static final int MOST_EAR = 200;

    private static final int JUDGES = 4;
    private static final int FIRST_LATE = 50;
    private static final int MOST_TIME = 99999;
    private static final int TIME_APART = 1000000;

    private static final int MOST_SIGNS = 30;
    private static final int MOST_LINES = 8;
    private static final int MOST_FACT = 9999;

    private static final int MOST_SLITS = 8;
    private static final int MOST_ROW_BITS = 63;

    /** Later than every COLUMN and every time, so that the least of several needs no second question. */
    private static final int NEVER = 10000000;

    private final Track track;
    private final Ranking ranking;
    private final Panel panel;
    private final Signs signs;
    private final Lines lines;
    private final Rack rack;

    public HairLine() {
        track = new Track();
        ranking = new Ranking();
        panel = new Panel();
        signs = new Signs();
        lines = new Lines();
        rack = new Rack();
    }

    // ---- 1 runners, films

    public int runner(int begin, int speed) {
        if (!within(begin, -3000, 0) || !within(speed, 1, MOST_SPEED)) {
            return OUTSIDE;
        }
        return track.enter(begin, speed);
    }

    public int shape(int runner, int row, int what, int from, int to) {
        if (!track.has(runner) || !isRow(row)) {
            return UNKNOWN;
        }
        if (!within(what, TORSO, LIMB) || !within(from, -9, 9) || !within(to, -9, 9)) {
            return OUTSIDE;
        }
        track.runners[runner].grow(what, row, from, to);
        return 1;
    }

    public int set(int which, int v) {
        if (!within(which, 0, SETTINGS - 1) || !within(v, SETTING_LEAST[which], SETTING_MOST[which])) {
            return OUTSIDE;
        }
        int was = track.settings[which];
        track.settings[which] = v;
        return was;
    }

    public int shows(int side, int column, int row) {
        if (!isRow(row)) {
            return UNKNOWN;
        }
        if (!isEither(side) || !within(column, 0, COLUMNS - 1)) {
            return OUTSIDE;
        }
        return track.film(side, column, row);
    }

    public int of(int runner, int what) {
        if (!track.has(runner)) {
            return UNKNOWN;
        }
        switch (what) {
            case 0:
            case 1:
                return orNone(track.hair(what, runner));
            case 2:
                return orNone(track.joined(runner));
            case 3:
                return orNone(track.runners[runner].crossing(0));
            case 4:
                return orNone(track.leaned(runner));
            case 5:
                return track.isHidden(runner) ? 1 : 0;
            case 6:
                return track.hears(runner);
            case 7:
                return track.early(runner);
            default:
                return OUTSIDE;
        }
    }

    public int moved(int i) {
        int found = 0;
        for (int lane = 0; lane < track.count; lane++) {
            for (int other = lane + 1; other < track.count; other++) {
                if (track.areMoved(lane, other)) {
                    if (found == i) {
                        return 10 * lane + other;
                    }
                    found++;
                }
            }
        }
        return i == -1 ? found : NONE;
    }

    // ---- 2 orders

    public int order(int i) {
        rank(false);
        return i == -1 ? ranking.size : ranking.at(i);
    }

    public int place(int runner, int rule) {
        if (!track.has(runner)) {
            return UNKNOWN;
        }
        if (!isEither(rule)) {
            return OUTSIDE;
        }
        rank(false);
        return ranking.placeOf(runner, rule, track.settings[READ]);
    }

    public int stretch(int runner, int row) {
        if (!track.has(runner) || !isRow(row)) {
            return UNKNOWN;
        }
        return track.runners[runner].columnsOver(LIMB, row, track.slitPlace(row));
    }

    public int speeds(int length, int columns, int end) {
        if (!within(length, 1, MOST_LENGTH) || !within(columns, 0, 30) || !isEither(end)) {
            return OUTSIDE;
        }
        int found = NONE;
        for (int speed = 1; speed <= MOST_SPEED; speed++) {
            if (canStretch(length, columns, speed)) {
                if (end == 0) {
                    return speed;
                }
                found = speed;
            }
        }
        return found;
    }

    // ---- 3 guns

    public int push(int runner, int column) {
        if (!track.has(runner)) {
            return UNKNOWN;
        }
        if (!within(column, -1, COLUMNS - 1)) {
            return OUTSIDE;
        }
        Runner pusher = track.runners[runner];
        int was = pusher.pushed;
        pusher.pushed = column == -1 ? NONE : column;
        return was;
    }

    public int mended(int i) {
        rank(true);
        return ranking.at(i);
    }

    public long wrong(int from, int to, int n, int part) {
        if (!within(from, 0, MOST_EAR) || !within(to, from, MOST_EAR)) {
            return OUTSIDE;
        }
        if (!within(n, 1, MOST_RUNNERS) || !isEither(part)) {
            return OUTSIDE;
        }
        int ears = to - from + 1;
        int quick = Math.max(0, Math.min(to, track.settings[EAR] - 1) - from + 1);
        long lower = power(ears, n);
        long upper = lower - power(ears - quick, n);
        long told = part == 0 ? upper : lower;
        long common = commonDivisor(upper, lower);
        return common < 1 ? told : told / common;
    }

    // ---- 4 judges

    public int known(int judge, int told, int truly) {
        if (!isJudge(judge)) {
            return UNKNOWN;
        }
        if (!within(told, 0, MOST_TIME) || !within(truly, 0, MOST_TIME)) {
            return OUTSIDE;
        }
        int late = told - truly;
        return panel.spans[judge].narrow(late - 1, late + 1) ? 1 : NO;
    }

    public int late(int judge, int end) {
        if (!isJudge(judge)) {
            return UNKNOWN;
        }
        if (!isEither(end)) {
            return OUTSIDE;
        }
        return panel.spans[judge].end(end);
    }

    public int tell(int judge, int time) {
        if (!isJudge(judge)) {
            return UNKNOWN;
        }
        if (!within(time, -1, MOST_TIME)) {
            return OUTSIDE;
        }
        int was = panel.said[judge];
        panel.said[judge] = time == -1 ? NONE : time;
        return was;
    }

    public int time(int end) {
        if (!isEither(end)) {
            return OUTSIDE;
        }
        int refusal = panel.agree();
        return refusal != NONE ? refusal : TIME_APART + panel.truth.end(end);
    }

    public int old(int time) {
        if (!within(time, 0, MOST_TIME)) {
            return OUTSIDE;
        }
        int refusal = panel.agree();
        if (refusal != NONE) {
            return refusal;
        }
        if (panel.truth.greatest < time) {
            return 1;
        }
        return panel.truth.least >= time ? 0 : 2;
    }

    // ---- 5 records

    public int say(int sign) {
        if (!within(sign, 33, 126)) {
            return OUTSIDE;
        }
        return signs.add(sign);
    }

    public int wipe() {
        int were = signs.count;
        signs.count = 0;
        return were;
    }

    public int fault() {
        return signs.firstFault();
    }

    public int rule() {
        if (signs.firstFault() != NONE) {
            return NO;
        }
        lines.read(signs);
        signs.count = 0;
        return lines.count;
    }

    public int record(int time, int wind, int height, int early) {
        if (!isFact(time) || !isFact(wind) || !isFact(height) || !isFact(early)) {
            return OUTSIDE;
        }
        if (lines.count == 0) {
            return STATE;
        }
        for (int line = 0; line < lines.count; line++) {
            int fact = chosen(lines.fact[line], time, wind, height, early);
            if (!lines.isSo(line, fact)) {
                return line;
            }
        }
        return NONE;
    }

    // ---- 6 slits

    public int slit(int side, int rows) {
        if (!isEither(side) || !within(rows, 1, MOST_ROW_BITS)) {
            return OUTSIDE;
        }
        return rack.add(side, rows);
    }

    public int seen(int slits, int what) {
        if (!within(slits, 0, (1 << rack.count) - 1) || !isEither(what)) {
            return OUTSIDE;
        }
        rack.look(track);
        int lanes = rack.seenBy(slits);
        return what == 0 ? lanes : untold(track.countTorsos(), lanes);
    }

    public int best(int k, int what) {
        if (!within(k, 0, MOST_SLITS) || !isEither(what)) {
            return OUTSIDE;
        }
        rack.look(track);
        int best = 0;
        int torsos = track.countTorsos();
        int fewest = untold(torsos, 0);
        for (int slits = 1; slits < 1 << rack.count; slits++) {
            int many = Integer.bitCount(slits);
            int pairs = untold(torsos, rack.seenBy(slits));
            boolean better = pairs < fewest || pairs == fewest && many < Integer.bitCount(best);
            if (many <= k && better) {
                best = slits;
                fewest = pairs;
            }
        }
        return what == 0 ? best : fewest;
    }

    public int told(int what) {
        switch (what) {
            case 0:
                return track.count;
            case 1:
                return rack.count;
            case 2:
                return signs.count;
            case 3:
                return lines.count;
            default:
                return within(what, 10, 9 + SETTINGS) ? track.settings[what - 10] : OUTSIDE;
        }
    }

    // ---- what several calls ask

    private static boolean within(int v, int least, int most) {
        return least <= v && v <= most;
    }

    private static boolean isEither(int v) {
        return v == 0 || v == 1;
    }

    private static boolean isRow(int row) {
        return within(row, 0, ROWS - 1);
    }

    private static boolean isJudge(int judge) {
        return within(judge, 0, JUDGES - 1);
    }

    private static boolean isFact(int v) {
        return within(v, -MOST_FACT, MOST_FACT);
    }

    private static int orNone(int column) {
        return column >= NEVER ? NONE : column;
    }

    private static int torsoMark(int lane) {
        return 10 * lane + 1;
    }

    private static int floorQuotient(int upper, int lower) {
        return lower < 1 ? 0 : Math.floorDiv(upper, lower);
    }

    private static int ceilQuotient(int upper, int lower) {
        return lower < 1 ? 0 : -Math.floorDiv(-upper, lower);
    }

    private static long power(long base, int exponent) {
        long product = 1;
        for (int i = 0; i < exponent; i++) {
            product *= base;
        }
        return product;
    }

    private static long commonDivisor(long a, long b) {
        long greater = a;
        long lesser = b;
        // two longs need fewer than 100 steps; the counter only makes the end plain
        for (int step = 0; step < 100 && lesser > 0; step++) {
            long rest = greater % lesser;
            greater = lesser;
            lesser = rest;
        }
        return greater;
    }

    /** A window of so many places catches the quotient of steps, or one more where it is not whole. */
    private static boolean canStretch(int length, int columns, int speed) {
        return within(columns, floorQuotient(length, speed), ceilQuotient(length, speed));
    }

    private static int chosen(int fact, int time, int wind, int height, int early) {
        switch (fact) {
            case 't':
                return time;
            case 'w':
                return wind;
            case 'h':
                return height;
            default:
                return early;
        }
    }

    private static int pairsOf(int many) {
        return many * (many - 1) / 2;
    }

    private static int untold(int torsos, int lanesSeen) {
        return pairsOf(torsos) - pairsOf(Integer.bitCount(lanesSeen));
    }

    private void rank(boolean byGun) {
        ranking.size = 0;
        for (int lane = 0; lane < track.count; lane++) {
            int joined = track.joined(lane);
            if (joined < NEVER) {
                ranking.add(lane, byGun ? joined - track.hears(lane) : joined);
            }
        }
    }

    /** A RUNNER: where it is in each COLUMN, and how far its parts reach beside that. */
    private static final class Runner {
        /** By part and ROW. From above to: no place lies in it, so that none needs no mark of its own. */
        private final int[] from = new int[2 * ROWS];
        private final int[] to = new int[2 * ROWS];
        private int begin;
        private int speed = 1;
        private int pushed = NONE;

        Runner() {
            for (int part = 0; part < from.length; part++) {
                from[part] = 1;
            }
        }

        void grow(int what, int row, int least, int most) {
            int part = what * ROWS + row;
            from[part] = least;
            to[part] = most;
        }

        boolean covers(int what, int row, int column, int slitPlace) {
            int part = what * ROWS + row;
            int beside = slitPlace - (begin + speed * column);
            return from[part] <= beside && beside <= to[part];
        }

        boolean hasTorso() {
            for (int row = 0; row < ROWS; row++) {
                if (from[row] <= to[row]) {
                    return true;
                }
            }
            return false;
        }

        /** The COLUMN in which a part's front is first at a place or beyond. */
        int firstOver(int what, int row, int slitPlace) {
            return Math.max(0, ceilQuotient(slitPlace - to[what * ROWS + row] - begin, speed));
        }

        /** The last COLUMN of the FILM in which a part's back is not yet beyond a place; -1 or less: none. */
        int lastOver(int what, int row, int slitPlace) {
            return Math.min(COLUMNS - 1, floorQuotient(slitPlace - from[what * ROWS + row] - begin, speed));
        }

        int columnsOver(int what, int row, int slitPlace) {
            return Math.max(0, lastOver(what, row, slitPlace) - firstOver(what, row, slitPlace) + 1);
        }

        /** TRUE for a lean of 0, else LEANED. */
        int crossing(int lean) {
            int first = NEVER;
            for (int row = 0; row < ROWS; row++) {
                if (from[row] <= to[row]) {
                    first = Math.min(first, firstOver(TORSO, row, lean * row));
                }
            }
            return first;
        }
    }

    /** The RUNNERS in their lanes, what set() sets, and what is on the FILMS. */
    private static final class Track {
        private final Runner[] runners = new Runner[MOST_RUNNERS];
        private final int[] settings = new int[SETTINGS];
        private int count;

        Track() {
            // all are made here, so that no lane is ever null
            for (int lane = 0; lane < MOST_RUNNERS; lane++) {
                runners[lane] = new Runner();
            }
            settings[EAR] = FIRST_EAR;
        }

        boolean has(int lane) {
            return within(lane, 0, count - 1);
        }

        int enter(int begin, int speed) {
            if (count >= MOST_RUNNERS) {
                return FULL;
            }
            runners[count].begin = begin;
            runners[count].speed = speed;
            count++;
            return count - 1;
        }

        int slitPlace(int row) {
            return settings[LEAN] * row;
        }

        int film(int side, int column, int row) {
            int place = slitPlace(row);
            for (int depth = 0; depth < count; depth++) {
                int lane = side == 0 ? depth : count - 1 - depth;
                if (runners[lane].covers(TORSO, row, column, place)) {
                    return torsoMark(lane);
                }
                if (runners[lane].covers(LIMB, row, column, place)) {
                    return torsoMark(lane) + 1;
                }
            }
            return 0;
        }

        int hair(int side, int lane) {
            int first = NEVER;
            for (int row = 0; row < ROWS; row++) {
                first = Math.min(first, firstShown(side, lane, row));
            }
            return first;
        }

        int firstShown(int side, int lane, int row) {
            int place = slitPlace(row);
            int last = runners[lane].lastOver(TORSO, row, place);
            for (int column = runners[lane].firstOver(TORSO, row, place); column <= last; column++) {
                if (film(side, column, row) == torsoMark(lane)) {
                    return column;
                }
            }
            return NEVER;
        }

        int joined(int lane) {
            return Math.min(hair(0, lane), hair(1, lane));
        }

        int leaned(int lane) {
            return runners[lane].crossing(settings[LEAN]);
        }

        boolean isHidden(int lane) {
            return runners[lane].hasTorso() && joined(lane) > leaned(lane);
        }

        int hears(int lane) {
            int off = settings[OTHER_GUN] == 1 ? Math.min(lane, count - 1 - lane) : lane;
            return 3 * off;
        }

        int early(int lane) {
            int pushed = runners[lane].pushed;
            if (pushed == NONE) {
                return NONE;
            }
            return pushed < hears(lane) + settings[EAR] ? 1 : 0;
        }

        boolean areMoved(int lane, int other) {
            Runner one = runners[lane];
            Runner two = runners[other];
            if (!one.hasTorso() || !two.hasTorso()) {
                return false;
            }
            int truly = Integer.compare(one.crossing(0), two.crossing(0));
            return truly != Integer.compare(leaned(lane), leaned(other));
        }

        int countTorsos() {
            int found = 0;
            for (int lane = 0; lane < count; lane++) {
                if (runners[lane].hasTorso()) {
                    found++;
                }
            }
            return found;
        }
    }

    /** Lanes by their keys, those with like keys as they were added. */
    private static final class Ranking {
        private final int[] lanes = new int[MOST_RUNNERS];
        private final int[] keys = new int[MOST_RUNNERS];
        private int size;

        void add(int lane, int key) {
            if (size >= lanes.length) {
                return;
            }
            int at = size;
            while (at > 0 && keys[at - 1] > key) {
                keys[at] = keys[at - 1];
                lanes[at] = lanes[at - 1];
                at--;
            }
            keys[at] = key;
            lanes[at] = lane;
            size++;
        }

        int at(int i) {
            return within(i, 0, size - 1) ? lanes[i] : NONE;
        }

        int placeOf(int lane, int rule, int read) {
            int head = 0;
            for (int i = 0; i < size; i++) {
                int ahead = rule == 0 ? Math.max(0, i - 1) : head;
                if (keys[i] - keys[ahead] > read) {
                    head = i;
                }
                if (lanes[i] == lane) {
                    return head + 1;
                }
            }
            return NONE;
        }
    }

    private static final class Span {
        private int least;
        private int greatest;

        void put(int from, int to) {
            least = from;
            greatest = to;
        }

        /** Keeps what lies in both; if nothing does, it stays as it was. */
        boolean narrow(int from, int to) {
            int inner = Math.max(least, from);
            int outer = Math.min(greatest, to);
            if (inner > outer) {
                return false;
            }
            put(inner, outer);
            return true;
        }

        int end(int which) {
            return which == 0 ? least : greatest;
        }
    }

    /** The JUDGES: how late each is, what each TOLD, and the true time by all of it. */
    private static final class Panel {
        private final Span[] spans = new Span[JUDGES];
        private final int[] said = new int[JUDGES];
        private final Span truth = new Span();

        Panel() {
            for (int judge = 0; judge < JUDGES; judge++) {
                spans[judge] = new Span();
                spans[judge].put(0, FIRST_LATE);
                said[judge] = NONE;
            }
        }

        /** Works out the truth: NONE, or the refusal. */
        int agree() {
            int tellers = 0;
            truth.put(-NEVER, NEVER);
            for (int judge = 0; judge < JUDGES; judge++) {
                if (said[judge] != NONE) {
                    tellers++;
                    Span by = spans[judge];
                    if (!truth.narrow(said[judge] - by.greatest, said[judge] - by.least)) {
                        return NO;
                    }
                }
            }
            return tellers == 0 ? STATE : NONE;
        }
    }

    /** The signs said so far, and whether they are a RULE. */
    private static final class Signs {
        private static final int WANTS_FACT = 0;
        private static final int WANTS_RELATION = 1;
        private static final int WANTS_NUMBER = 2;
        private static final int WANTS_DIGIT = 3;
        private static final int ONE_DIGIT = 4;
        private static final int FOUR_DIGITS = 7;
        private static final int CANNOT_STAND = -1;

        private final int[] codes = new int[MOST_SIGNS];
        private int count;

        int add(int sign) {
            if (count >= MOST_SIGNS) {
                return FULL;
            }
            codes[count] = sign;
            count++;
            return count;
        }

        int firstFault() {
            int stage = WANTS_FACT;
            for (int i = 0; i < count; i++) {
                stage = next(stage, codes[i]);
                if (stage == CANNOT_STAND) {
                    return i;
                }
            }
            return stage >= ONE_DIGIT ? NONE : count;
        }

        static int next(int stage, int sign) {
            switch (stage) {
                case WANTS_FACT:
                    return isFactSign(sign) ? WANTS_RELATION : CANNOT_STAND;
                case WANTS_RELATION:
                    return isRelation(sign) ? WANTS_NUMBER : CANNOT_STAND;
                case WANTS_NUMBER:
                    return sign == '-' ? WANTS_DIGIT : isDigit(sign) ? ONE_DIGIT : CANNOT_STAND;
                case WANTS_DIGIT:
                    return isDigit(sign) ? ONE_DIGIT : CANNOT_STAND;
                default:
                    return afterDigit(stage, sign);
            }
        }

        static int afterDigit(int stage, int sign) {
            if (sign == ';') {
                return WANTS_FACT;
            }
            return isDigit(sign) && stage < FOUR_DIGITS ? stage + 1 : CANNOT_STAND;
        }

        static boolean isFactSign(int sign) {
            return sign == 't' || sign == 'w' || sign == 'h' || sign == 'e';
        }

        static boolean isRelation(int sign) {
            return sign == '<' || sign == '>' || sign == '=';
        }

        static boolean isDigit(int sign) {
            return within(sign, '0', '9');
        }
    }

    /** The LINES of the RULE. */
    private static final class Lines {
        private final int[] fact = new int[MOST_LINES];
        private final int[] relation = new int[MOST_LINES];
        private final int[] factor = new int[MOST_LINES];
        private final int[] bound = new int[MOST_LINES];
        private int count;

        /** The signs must be without a FAULT. */
        void read(Signs signs) {
            count = 0;
            for (int i = 0; i < signs.count; i++) {
                take(signs.codes[i]);
            }
        }

        /** Only a fact opens a LINE, so that what stands between two LINES needs no care. */
        void take(int sign) {
            if (Signs.isFactSign(sign)) {
                open(sign);
                return;
            }
            int line = count - 1;
            if (line < 0) {
                return;
            }
            if (Signs.isRelation(sign)) {
                relation[line] = sign;
            } else if (sign == '-') {
                factor[line] = -1;
            } else if (Signs.isDigit(sign)) {
                bound[line] = 10 * bound[line] + sign - '0';
            }
        }

        void open(int sign) {
            if (count >= MOST_LINES) {
                return;
            }
            fact[count] = sign;
            factor[count] = 1;
            bound[count] = 0;
            count++;
        }

        boolean isSo(int line, int value) {
            int limit = factor[line] * bound[line];
            switch (relation[line]) {
                case '<':
                    return value < limit;
                case '>':
                    return value > limit;
                default:
                    return value == limit;
            }
        }
    }

    /** The SLITS, and which lanes each of them sees. */
    private static final class Rack {
        private final int[] sides = new int[MOST_SLITS];
        private final int[] rows = new int[MOST_SLITS];
        private final int[] lanesSeen = new int[MOST_SLITS];
        private int count;

        int add(int side, int rowBits) {
            if (count >= MOST_SLITS) {
                return FULL;
            }
            sides[count] = side;
            rows[count] = rowBits;
            count++;
            return count - 1;
        }

        void look(Track track) {
            for (int i = 0; i < count; i++) {
                lanesSeen[i] = 0;
                for (int lane = 0; lane < track.count; lane++) {
                    if (catches(i, lane, track)) {
                        lanesSeen[i] |= 1 << lane;
                    }
                }
            }
        }

        /**
         * No TORSO covers the slit ahead of LEANED. So the first COLUMN with it is LEANED
         * just if it is on the FILM there, and SLITS see together what one of them sees.
         */
        boolean catches(int i, int lane, Track track) {
            int column = track.leaned(lane);
            if (column >= COLUMNS) {
                return false;
            }
            for (int row = 0; row < ROWS; row++) {
                boolean looks = (rows[i] >> row & 1) == 1;
                if (looks && track.film(sides[i], column, row) == torsoMark(lane)) {
                    return true;
                }
            }
            return false;
        }

        int seenBy(int slits) {
            int lanes = 0;
            for (int i = 0; i < count; i++) {
                if ((slits >> i & 1) == 1) {
                    lanes |= lanesSeen[i];
                }
            }
            return lanes;
        }
    }
}
