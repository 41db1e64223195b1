/** Promises 20 to 24: say, wipe, fault, rule, record. */
public final class RecordsTest {
    private static final Check CHECK = new Check("records");
    private static final int MIN = Integer.MIN_VALUE;
    private static final int MAX = Integer.MAX_VALUE;
    private static final int NONE = HairLine.NONE;

    public static void main(String[] args) {
        say();
        wipe();
        faults();
        faultOfEachSign();
        rule();
        ruleStays();
        relations();
        facts();
        numbers();
        manyLines();
        recordRefused();
        CHECK.end();
    }

    private static void due(String call, long got, long want) {
        CHECK.due(call, got, want);
    }

    private static HairLine ruled(String text) {
        HairLine x = Scenes.saying(text);
        x.rule();
        return x;
    }

    private static void say() {
        HairLine x = new HairLine();
        int[] wrong = {32, 127, 0, -1, MIN, MAX};
        for (int sign : wrong) {
            due("say(" + sign + ")", x.say(sign), HairLine.OUTSIDE);
        }
        due("none came of it", x.told(2), 0);
        due("33", x.say(33), 1);
        due("126", x.say(126), 2);
        for (int i = 3; i <= 30; i++) {
            due("sign " + i, x.say('t'), i);
        }
        due("31st", x.say('t'), HairLine.FULL);
        due("31st that is wrong", x.say(32), HairLine.OUTSIDE);
        due("told(2)", x.told(2), 30);
    }

    private static void wipe() {
        HairLine x = new HairLine();
        due("nothing", x.wipe(), 0);
        Scenes.sayAll(x, "t<5");
        due("three", x.wipe(), 3);
        due("none is left", x.told(2), 0);
        due("nothing again", x.wipe(), 0);
        due("fault of nothing", x.fault(), 0);
        Scenes.sayAll(x, "e=0");
        due("a rule", x.rule(), 1);
        Scenes.sayAll(x, "w");
        due("one", x.wipe(), 1);
        due("the rule stays", x.told(3), 1);
        due("and holds", x.record(0, 0, 0, 1), 0);
    }

    private static void faults() {
        Object[][] want = {
            {"", 0}, {"t", 1}, {"t<", 2}, {"t<-", 3}, {"t<-1", NONE}, {"t<1", NONE}, {"t<12", NONE},
            {"t<1234", NONE}, {"t<12345", 6}, {"t<-1234", NONE}, {"t<-12345", 7}, {"t<--1", 3},
            {"t<1;", 4}, {"t<1;;", 4}, {";t<1", 0}, {"<1", 0}, {"1", 0}, {"-", 0}, {"t1", 1}, {"t-1", 1},
            {"tt", 1}, {"t<<1", 2}, {"t<=1", 2}, {"t<t", 2}, {"t<;", 2}, {"t<-;", 3}, {"t<1-", 3},
            {"t<1t", 3}, {"t<1<", 3}, {"t<1;w>2", NONE}, {"t<1;w>2;", 8}, {"t<1;x>2", 4}, {"t<1;w", 5},
            {"t<1;w>", 6}, {"t<1;w>-", 7}, {"t<1234;w>0", NONE}, {"T<1", 0}, {"a<1", 0}, {"x", 0},
            {"t<0000", NONE}, {"t<00000", 6}, {"e=0;h>9;w<1;t=5;e=0;h>9;w<1", NONE},
            {"e=0;h>9;w<1;t=5;e=0;h>9;w<123", NONE}, {"e=0;h>9;w<1;t=5;e=0;h>9;w<-123", NONE},
            {"e=0;h>9;w<1;t=5;e=0;h>9;w<1;e=", 30}, {"e=0;h>9;w<1;t=5;e=0;h>9;w<12;", 29},
        };
        for (Object[] w : want) {
            String text = (String) w[0];
            HairLine x = Scenes.saying(text);
            int said = x.told(2);
            int fault = (Integer) w[1];
            due("fault of " + text, x.fault(), fault);
            due("rule of " + text, x.rule() == HairLine.NO ? 1 : 0, fault == NONE ? 0 : 1);
            due("signs of " + text, x.told(2), fault == NONE ? 0 : said);
        }
    }

    /** In each place of a LINE each sign is tried. */
    private static void faultOfEachSign() {
        String[] heads = {"", "t", "w>", "h=-", "e<1", "e<12", "e<123", "e<1234", "t>1;", "t>-123"};
        String[] fit = {"twhe", "<>=", "-0123456789", "0123456789", "0123456789;", "0123456789;", "0123456789;", ";",
            "twhe", "0123456789;"};
        for (int i = 0; i < heads.length; i++) {
            for (int sign = 33; sign <= 126; sign++) {
                HairLine x = Scenes.saying(heads[i]);
                x.say(sign);
                boolean stands = fit[i].indexOf(sign) >= 0;
                boolean first = x.fault() == heads[i].length();
                due("sign " + (char) sign + " behind " + heads[i], first ? 0 : 1, stands ? 1 : 0);
            }
        }
    }

    private static void rule() {
        HairLine x = Scenes.saying("t<100;w<21");
        due("no lines yet", x.told(3), 0);
        due("two lines", x.rule(), 2);
        due("signs are empty", x.told(2), 0);
        due("told", x.told(3), 2);
        due("the next sign is the first", x.say('e'), 1);
        Scenes.sayAll(x, "=0");
        due("one line in its stead", x.rule(), 1);
        due("told", x.told(3), 1);
        due("the new one", x.record(9999, 9999, 0, 0), NONE);
        due("the new one", x.record(0, 0, 0, 1), 0);
    }

    private static void ruleStays() {
        HairLine x = ruled("t<100");
        due("nothing said", x.rule(), HairLine.NO);
        due("it stays", x.told(3), 1);
        Scenes.sayAll(x, "t>");
        due("a fault", x.rule(), HairLine.NO);
        due("signs stay", x.told(2), 2);
        due("fault", x.fault(), 2);
        due("the rule stays", x.record(99, 0, 0, 0), NONE);
        x.say('5');
        due("mended", x.rule(), 1);
        due("now it is the other", x.record(99, 0, 0, 0), NONE);
        due("now it is the other", x.record(5, 0, 0, 0), 0);
    }

    private static void relations() {
        HairLine less = ruled("t<5");
        HairLine more = ruled("t>5");
        HairLine like = ruled("t=5");
        for (int t = 4; t <= 6; t++) {
            due("less " + t, less.record(t, 0, 0, 0), t < 5 ? NONE : 0);
            due("more " + t, more.record(t, 0, 0, 0), t > 5 ? NONE : 0);
            due("like " + t, like.record(t, 0, 0, 0), t == 5 ? NONE : 0);
        }
    }

    private static void facts() {
        String names = "twhe";
        for (int i = 0; i < 4; i++) {
            HairLine x = ruled(names.charAt(i) + "=7");
            for (int at = 0; at < 4; at++) {
                int[] v = new int[4];
                v[at] = 7;
                due("fact " + names.charAt(i) + " at " + at, x.record(v[0], v[1], v[2], v[3]), at == i ? NONE : 0);
            }
        }
    }

    private static void numbers() {
        due("-9999", ruled("w=-9999").record(0, -9999, 0, 0), NONE);
        due("9999", ruled("w=9999").record(0, 9999, 0, 0), NONE);
        due("-0", ruled("w=-0").record(0, 0, 0, 0), NONE);
        due("007", ruled("w=007").record(0, 7, 0, 0), NONE);
        due("1234", ruled("w=1234").record(0, 1234, 0, 0), NONE);
        due("-12", ruled("w=-12").record(0, -12, 0, 0), NONE);
        due("-12 is not 12", ruled("w=-12").record(0, 12, 0, 0), 0);
        HairLine x = ruled("w=-12");
        Scenes.sayAll(x, "w=12");
        x.rule();
        due("no minus is left over", x.record(0, 12, 0, 0), NONE);
    }

    private static void manyLines() {
        HairLine x = Scenes.saying("t>0;t>1;t>2;t>3;t>4;t>5;t>66");
        due("seven lines", x.rule(), 7);
        for (int t = 0; t <= 5; t++) {
            due("first that is not so", x.record(t, 0, 0, 0), t);
        }
        due("the seventh", x.record(66, 0, 0, 0), 6);
        due("all are so", x.record(67, 0, 0, 0), NONE);
        Scenes.sayAll(x, "t>0;t>1;t>2;t>3;t>4;t>5;t>-666");
        due("30 signs", x.told(2), 30);
        due("seven lines again", x.rule(), 7);
        due("so", x.record(6, 0, 0, 0), NONE);
    }

    private static void recordRefused() {
        HairLine x = new HairLine();
        for (int at = 0; at < 4; at++) {
            int[] wrong = {-10000, 10000, MIN, MAX};
            for (int w : wrong) {
                int[] v = new int[4];
                v[at] = w;
                due("outside, no rule", x.record(v[0], v[1], v[2], v[3]), HairLine.OUTSIDE);
            }
        }
        due("no rule", x.record(-9999, 9999, -9999, 9999), HairLine.STATE);
        Scenes.sayAll(x, "t<0");
        due("signs are no rule", x.record(-1, 0, 0, 0), HairLine.STATE);
        x.rule();
        due("a rule", x.record(-9999, 9999, 9999, 9999), NONE);
        for (int at = 0; at < 4; at++) {
            int[] v = new int[4];
            v[at] = 10000;
            due("outside", x.record(v[0], v[1], v[2], v[3]), HairLine.OUTSIDE);
        }
    }
}
