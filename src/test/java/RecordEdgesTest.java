/** The edges of section 5 and of promises 20 to 24, each behind the words that name it. */
public final class RecordEdgesTest {
    private static final Check CHECK = new Check("record edges");
    private static final int NONE = HairLine.NONE;
    private static final String SEVEN = "t>0;w>1;h>2;e>3;t>4;w>5;h>6";

    public static void main(String[] args) {
        signCodes();
        thirtySigns();
        roomAgain();
        wipeOfNothing();
        faultOfNothing();
        firstSignThatCanNotStand();
        moreMustCome();
        oneToFourDigits();
        perhapsAMinus();
        semicolonBetweenTwo();
        faultOfThirty();
        ruleOfNothing();
        ruleEmptiesTheSigns();
        ruleStaysAtAFault();
        fewestAndMostLines();
        recordWithoutARule();
        recordNumbers();
        relationsAtTheNumber();
        leastAndGreatestNumber();
        whetherEarly();
        firstLineThatIsNotSo();
        CHECK.end();
    }

    private static void due(String call, long got, long want) {
        CHECK.due(call, got, want);
    }

    private static HairLine ruled(String text) {
        HairLine x = Scenes.saying(text);
        CHECK.isTrue(text + " is a rule", x.rule() > 0);
        return x;
    }

    private static void faultIs(String text, int want) {
        HairLine x = Scenes.saying(text);
        due("fault of " + text, x.fault(), want);
        due("it is asked again", x.fault(), want);
        due("signs stay", x.told(2), text.length());
    }

    /** "signs (codes 33 to 126)". */
    private static void signCodes() {
        HairLine x = new HairLine();
        due("32", x.say(32), HairLine.OUTSIDE);
        due("127", x.say(127), HairLine.OUTSIDE);
        due("none came of it", x.told(2), 0);
        due("33", x.say(33), 1);
        due("126", x.say(126), 2);
        due("code 116 and 2 to the 16th is no t", x.say(65536 + 116), HairLine.OUTSIDE);
        due("code 116 less 2 to the 8th is no t", x.say(116 - 256), HairLine.OUTSIDE);
    }

    /** "a text of up to 30 signs"; "A sign more: how many. OUTSIDE; FULL." */
    private static void thirtySigns() {
        HairLine x = new HairLine();
        for (int i = 1; i <= 30; i++) {
            due("sign " + i, x.say('t'), i);
        }
        due("a 31st", x.say('t'), HairLine.FULL);
        due("a 31st, code 32", x.say(32), HairLine.OUTSIDE);
        due("a 31st, code 127", x.say(127), HairLine.OUTSIDE);
        due("still 30", x.told(2), 30);
    }

    /** "FULL": until the signs go, or are the RULE's. */
    private static void roomAgain() {
        HairLine x = Scenes.saying(SEVEN + "666");
        due("full", x.say('t'), HairLine.FULL);
        due("wiped", x.wipe(), 30);
        due("room again", x.say('t'), 1);
        HairLine y = Scenes.saying(SEVEN + "666");
        due("a rule of 30 signs", y.rule(), 7);
        due("room again", y.say('t'), 1);
    }

    /** "Signs go: how many there were." */
    private static void wipeOfNothing() {
        HairLine x = new HairLine();
        due("none", x.wipe(), 0);
        x.say('q');
        due("one", x.wipe(), 1);
        due("none again", x.wipe(), 0);
        HairLine y = ruled("t<5");
        due("none behind a rule", y.wipe(), 0);
        due("its rule stays", y.told(3), 1);
        due("and is so", y.record(4, 0, 0, 0), NONE);
    }

    /** "one or more LINES": of no signs more must come. */
    private static void faultOfNothing() {
        due("nothing said", new HairLine().fault(), 0);
        HairLine x = Scenes.saying("t<5");
        due("no fault", x.fault(), NONE);
        x.wipe();
        due("nothing any more", x.fault(), 0);
        due("behind a rule", ruled("t<5").fault(), 0);
    }

    /** "the place (from 0 on) of the first sign that can not stand there". */
    private static void firstSignThatCanNotStand() {
        faultIs("q", 0);
        faultIs("qq", 0);
        faultIs("tq", 1);
        faultIs("t<q", 2);
        faultIs("t<-q", 3);
        faultIs("t<5q", 3);
        faultIs("t<5;q", 4);
        faultIs("t<5;w<q", 6);
        faultIs("tq<5;;", 1);
        faultIs("t<5!", 3);
        faultIs("T<5", 0);
        faultIs("5", 0);
        faultIs(";", 0);
        faultIs("<", 0);
        faultIs("t5", 1);
        faultIs("t-", 1);
        faultIs("t;", 1);
        faultIs("tw", 1);
    }

    /** "the number of signs, if more must come." */
    private static void moreMustCome() {
        faultIs("t", 1);
        faultIs("t<", 2);
        faultIs("t<-", 3);
        faultIs("t<5", NONE);
        faultIs("t<5;", 4);
        faultIs("t<5;w", 5);
        faultIs("t<5;w=", 6);
        faultIs("t<5;w=-", 7);
        faultIs("t<5;w=-0", NONE);
    }

    /** "then 1 to 4 digits". */
    private static void oneToFourDigits() {
        faultIs("t<;", 2);
        faultIs("t<0", NONE);
        faultIs("t<9", NONE);
        faultIs("t<99", NONE);
        faultIs("t<999", NONE);
        faultIs("t<9999", NONE);
        faultIs("t<0000", NONE);
        faultIs("t<99999", 6);
        faultIs("t<00001", 6);
        faultIs("t<-9999", NONE);
        faultIs("t<-99999", 7);
        faultIs("t<1234;w<12345", 13);
        // the signs beside the digits: / is 47, : is 58
        faultIs("t</", 2);
        faultIs("t<:", 2);
        faultIs("t<1/", 3);
        faultIs("t<1:", 3);
    }

    /** "then <, > or =, then perhaps -". */
    private static void perhapsAMinus() {
        faultIs("t--1", 1);
        faultIs("t<--1", 3);
        faultIs("t<1-", 3);
        faultIs("t<+1", 2);
        faultIs("t<=1", 2);
        faultIs("t=<1", 2);
        faultIs("-t<1", 0);
        faultIs("t=-1", NONE);
        faultIs("t>-1", NONE);
    }

    /** "LINES with a ; between two". */
    private static void semicolonBetweenTwo() {
        faultIs(";t<1", 0);
        faultIs("t<1;;w<1", 4);
        faultIs("t<1;w<1;", 8);
        faultIs("t<1w<1", 3);
        faultIs("t<1,w<1", 3);
        faultIs("t<1;t<1", NONE);
    }

    /** "up to 30 signs"; "the number of signs, if more must come". */
    private static void faultOfThirty() {
        faultIs(SEVEN + "666", NONE);
        faultIs(SEVEN + "66;", 30);
        faultIs(SEVEN + "6;t", 30);
        faultIs(SEVEN + ";t<", 30);
        faultIs(SEVEN + ";tt", 29);
        faultIs(SEVEN + "6;;", 29);
    }

    /** "NO: there is a FAULT." */
    private static void ruleOfNothing() {
        HairLine x = new HairLine();
        due("nothing said", x.rule(), HairLine.NO);
        due("no rule", x.told(3), 0);
        due("no rule", x.record(0, 0, 0, 0), HairLine.STATE);
        x.say('t');
        due("more must come", x.rule(), HairLine.NO);
        x.wipe();
        due("wiped", x.rule(), HairLine.NO);
    }

    /** "The RULE is the signs' (they are empty then): LINES." */
    private static void ruleEmptiesTheSigns() {
        HairLine x = Scenes.saying("t<5;w>-3");
        due("lines", x.rule(), 2);
        due("empty", x.told(2), 0);
        due("empty", x.fault(), 0);
        due("told", x.told(3), 2);
        due("at once again", x.rule(), HairLine.NO);
        due("the rule stays", x.told(3), 2);
        due("from the first place on", x.say('h'), 1);
        Scenes.sayAll(x, "=7");
        due("another rule in its stead", x.rule(), 1);
        due("told", x.told(3), 1);
        due("nothing is left of the first", x.record(9999, -9999, 7, 0), NONE);
        due("it is the other", x.record(0, 0, 8, 0), 0);
    }

    /** "NO: there is a FAULT": signs and RULE stay. */
    private static void ruleStaysAtAFault() {
        HairLine x = ruled("t<5");
        Scenes.sayAll(x, "t>5;q");
        due("a fault", x.rule(), HairLine.NO);
        due("the signs stay", x.told(2), 5);
        due("the fault stays", x.fault(), 4);
        due("the rule stays", x.told(3), 1);
        due("so", x.record(4, 0, 0, 0), NONE);
        due("not so", x.record(6, 0, 0, 0), 0);
    }

    /** "one or more LINES": 30 signs have room for seven. */
    private static void fewestAndMostLines() {
        due("one", Scenes.saying("e=0").rule(), 1);
        due("two", Scenes.saying("e=0;t<1").rule(), 2);
        due("seven", Scenes.saying(SEVEN).rule(), 7);
        due("seven of 30 signs", Scenes.saying(SEVEN + "000").rule(), 7);
        due("six of 30 signs", Scenes.saying("t<1;t<1;t<1;t<1;t<-123;t<-1234").rule(), 6);
        due("four long ones", Scenes.saying("t<-1234;w>-9999;h=9999;e=0").rule(), 4);
    }

    /** "STATE: no RULE; OUTSIDE (ahead)". */
    private static void recordWithoutARule() {
        HairLine x = new HairLine();
        due("no rule", x.record(0, 0, 0, 0), HairLine.STATE);
        due("no rule, the greatest", x.record(9999, 9999, 9999, 9999), HairLine.STATE);
        due("no rule, outside", x.record(0, 10000, 0, 0), HairLine.OUTSIDE);
        Scenes.sayAll(x, "t<5");
        due("signs are no rule", x.record(0, 0, 0, 0), HairLine.STATE);
        x.rule();
        due("a rule", x.record(0, 0, 0, 0), NONE);
        x.say('q');
        due("a fault of new signs", x.record(0, 0, 0, 0), NONE);
    }

    /** "-9999 to 9999 each". */
    private static void recordNumbers() {
        HairLine bare = new HairLine();
        HairLine x = ruled("t=7");
        for (int at = 0; at < 4; at++) {
            for (int v : new int[] {-10000, 10000}) {
                int[] f = new int[4];
                f[at] = v;
                due("outside, no rule", bare.record(f[0], f[1], f[2], f[3]), HairLine.OUTSIDE);
                due("outside, a line that is not so", x.record(f[0], f[1], f[2], f[3]), HairLine.OUTSIDE);
            }
            for (int v : new int[] {-9999, 9999}) {
                int[] f = {7, 7, 7, 7};
                f[at] = v;
                due("taken", x.record(f[0], f[1], f[2], f[3]), at == 0 ? 0 : NONE);
            }
        }
    }

    /** "then <, > or =": what is alike is neither less nor more. */
    private static void relationsAtTheNumber() {
        for (int number : new int[] {-9999, -1, 0, 1, 9999}) {
            for (int v = Math.max(-9999, number - 1); v <= Math.min(9999, number + 1); v++) {
                due("w<", ruled("w<" + number).record(0, v, 0, 0), v < number ? NONE : 0);
                due("w>", ruled("w>" + number).record(0, v, 0, 0), v > number ? NONE : 0);
                due("w=", ruled("w=" + number).record(0, v, 0, 0), v == number ? NONE : 0);
            }
        }
    }

    /** "perhaps -, then 1 to 4 digits": -9999 to 9999, and 0 by several texts. */
    private static void leastAndGreatestNumber() {
        due("nothing is more than 9999", ruled("h>9999").record(0, 0, 9999, 0), 0);
        due("nothing is less than -9999", ruled("h<-9999").record(0, 0, -9999, 0), 0);
        due("-0 is 0", ruled("h=-0").record(0, 0, 0, 0), NONE);
        due("-0000 is 0", ruled("h=-0000").record(0, 0, 0, 0), NONE);
        due("0010 is 10", ruled("h=0010").record(0, 0, 10, 0), NONE);
        due("-0010 is -10", ruled("h=-0010").record(0, 0, -10, 0), NONE);
    }

    /** "e whether EARLY: 1, 0". */
    private static void whetherEarly() {
        due("0 is 0", ruled("e=0").record(1, 1, 1, 0), NONE);
        due("1 is not 0", ruled("e=0").record(0, 0, 0, 1), 0);
        due("1 is 1", ruled("e=1").record(0, 0, 0, 1), NONE);
        due("0 is not 1", ruled("e=1").record(1, 1, 1, 0), 0);
        due("0 is less than 1", ruled("e<1").record(1, 1, 1, 0), NONE);
        due("1 is more than 0", ruled("e>0").record(0, 0, 0, 1), NONE);
    }

    /** "Whether a record STANDS (NONE), or the first LINE that is not so"; "if all LINES are so". */
    private static void firstLineThatIsNotSo() {
        HairLine x = ruled(SEVEN);
        // t>0;w>1;h>2;e>3;t>4;w>5;h>6
        due("all are so", x.record(5, 6, 7, 4), NONE);
        due("none is so: the first", x.record(0, 0, 0, 0), 0);
        due("the second", x.record(5, 1, 7, 4), 1);
        due("the third", x.record(5, 6, 2, 4), 2);
        due("the fourth", x.record(5, 6, 7, 3), 3);
        due("the fifth", x.record(4, 6, 7, 4), 4);
        due("the sixth", x.record(5, 5, 7, 4), 5);
        due("the seventh alone", x.record(5, 6, 6, 4), 6);
        due("of two the first", x.record(5, 1, 2, 4), 1);
    }
}
