/** The edges of section 4 and of promises 15 to 19, each behind the words that name it. */
public final class JudgeEdgesTest {
    private static final Check CHECK = new Check("judge edges");
    private static final int NONE = HairLine.NONE;
    private static final int MORE = 1000000;

    public static void main(String[] args) {
        judgesThereAre();
        spansAtFirst();
        giveOrTakeOne();
        knownAtTheSpansEnds();
        nothingInBoth();
        downToOne();
        knownTimes();
        lateEnds();
        toldTimes();
        tellRefused();
        nothingTold();
        belowZero();
        greatestTime();
        inAll();
        theyDoNotAgree();
        oldSureFaster();
        oldTimes();
        oldLikewise();
        CHECK.end();
    }

    private static void due(String call, long got, long want) {
        CHECK.due(call, got, want);
    }

    private static void lateIs(String what, HairLine x, int judge, int least, int greatest) {
        due(what + ", least of " + judge, x.late(judge, 0), least);
        due(what + ", greatest of " + judge, x.late(judge, 1), greatest);
    }

    private static void timeIs(String what, HairLine x, int least, int greatest) {
        due(what + ", least", x.time(0), MORE + least);
        due(what + ", greatest", x.time(1), MORE + greatest);
    }

    private static HairLine told(int... times) {
        HairLine x = new HairLine();
        for (int judge = 0; judge < times.length; judge++) {
            x.tell(judge, times[judge]);
        }
        return x;
    }

    /** "JUDGES 0 to 3"; "UNKNOWN; OUTSIDE": the JUDGE first. */
    private static void judgesThereAre() {
        HairLine x = new HairLine();
        for (int judge : new int[] {-1, 4}) {
            due("known", x.known(judge, 0, 0), HairLine.UNKNOWN);
            due("known, wrong told", x.known(judge, 100000, 0), HairLine.UNKNOWN);
            due("known, nothing in both", x.known(judge, 99999, 0), HairLine.UNKNOWN);
            due("late", x.late(judge, 0), HairLine.UNKNOWN);
            due("late, wrong end", x.late(judge, 2), HairLine.UNKNOWN);
            due("tell", x.tell(judge, 0), HairLine.UNKNOWN);
            due("tell, wrong time", x.tell(judge, 100000), HairLine.UNKNOWN);
        }
        for (int judge = 0; judge < 4; judge++) {
            due("known", x.known(judge, 30 + judge, 20), 1);
            due("tell", x.tell(judge, 5), NONE);
        }
        for (int judge = 0; judge < 4; judge++) {
            lateIs("each its own", x, judge, 9 + judge, 11 + judge);
        }
    }

    /** "0 to 50 at first". */
    private static void spansAtFirst() {
        HairLine x = new HairLine();
        for (int judge = 0; judge < 4; judge++) {
            lateIs("at first", x, judge, 0, 50);
        }
    }

    /** "what is in it and that difference, give or take 1". */
    private static void giveOrTakeOne() {
        for (int late = 1; late <= 49; late++) {
            HairLine x = new HairLine();
            due("late by " + late, x.known(1, 5000 + late, 5000), 1);
            lateIs("late by " + late, x, 1, late - 1, late + 1);
        }
        HairLine y = new HairLine();
        y.known(1, 530, 500);
        due("2 more: 1 is in both", y.known(1, 532, 500), 1);
        lateIs("2 more", y, 1, 31, 31);
        HairLine z = new HairLine();
        z.known(1, 530, 500);
        due("2 less: 1 is in both", z.known(1, 528, 500), 1);
        lateIs("2 less", z, 1, 29, 29);
    }

    /** "what is in it and that difference, give or take 1": at the ends of 0 to 50. */
    private static void knownAtTheSpansEnds() {
        int[][] want = {{51, 50, 50}, {50, 49, 50}, {49, 48, 50}, {1, 0, 2}, {0, 0, 1}, {-1, 0, 0}};
        for (int[] w : want) {
            HairLine x = new HairLine();
            due("late by " + w[0], x.known(3, 1000 + w[0], 1000), 1);
            lateIs("late by " + w[0], x, 3, w[1], w[2]);
        }
    }

    /** "NO: nothing is in both (it stays)". */
    private static void nothingInBoth() {
        HairLine x = new HairLine();
        due("52", x.known(0, 1052, 1000), HairLine.NO);
        due("-2", x.known(0, 998, 1000), HairLine.NO);
        lateIs("it stays", x, 0, 0, 50);
        x.known(0, 1020, 1000);
        due("3 more", x.known(0, 1023, 1000), HairLine.NO);
        due("3 less", x.known(0, 1017, 1000), HairLine.NO);
        lateIs("it stays", x, 0, 19, 21);
    }

    /** "what is in it": one hundredth is enough. */
    private static void downToOne() {
        HairLine x = new HairLine();
        x.known(0, 20, 0);
        x.known(0, 22, 0);
        lateIs("21 alone", x, 0, 21, 21);
        due("19: nothing in both", x.known(0, 19, 0), HairLine.NO);
        due("20", x.known(0, 20, 0), 1);
        due("21", x.known(0, 21, 0), 1);
        due("22", x.known(0, 22, 0), 1);
        due("23: nothing in both", x.known(0, 23, 0), HairLine.NO);
        lateIs("21 alone", x, 0, 21, 21);
    }

    /** "OUTSIDE: times 0 to 99999; NO." */
    private static void knownTimes() {
        HairLine x = new HairLine();
        due("told -1", x.known(0, -1, 0), HairLine.OUTSIDE);
        due("truly -1", x.known(0, 0, -1), HairLine.OUTSIDE);
        due("told 100000", x.known(0, 100000, 99999), HairLine.OUTSIDE);
        due("truly 100000", x.known(0, 99999, 100000), HairLine.OUTSIDE);
        due("outside ahead of nothing in both", x.known(0, 100000, 0), HairLine.OUTSIDE);
        lateIs("it stays", x, 0, 0, 50);
        due("0, 0", x.known(0, 0, 0), 1);
        lateIs("0, 0", x, 0, 0, 1);
        due("99999, 99999", x.known(1, 99999, 99999), 1);
        lateIs("99999, 99999", x, 1, 0, 1);
        due("99999, 0", x.known(2, 99999, 0), HairLine.NO);
        due("0, 99999", x.known(2, 0, 99999), HairLine.NO);
        lateIs("it stays", x, 2, 0, 50);
    }

    /** "(0 the least, 1 the greatest)". */
    private static void lateEnds() {
        HairLine x = new HairLine();
        due("end -1", x.late(0, -1), HairLine.OUTSIDE);
        due("end 0", x.late(0, 0), 0);
        due("end 1", x.late(0, 1), 50);
        due("end 2", x.late(0, 2), HairLine.OUTSIDE);
    }

    /** "TOLD times (0 to 99999 each, or none)"; "(-1: none): which it was (NONE)." */
    private static void toldTimes() {
        HairLine x = new HairLine();
        for (int judge = 0; judge < 4; judge++) {
            due("none at first", x.tell(judge, 0), NONE);
            due("0 is one", x.tell(judge, 99999), 0);
            due("99999 is one", x.tell(judge, -1), 99999);
            due("none again", x.tell(judge, -1), NONE);
        }
    }

    /** "UNKNOWN; OUTSIDE": what was told stays. */
    private static void tellRefused() {
        HairLine x = told(7);
        due("-2", x.tell(0, -2), HairLine.OUTSIDE);
        due("100000", x.tell(0, 100000), HairLine.OUTSIDE);
        due("it stayed", x.tell(0, 8), 7);
    }

    /** "OUTSIDE; STATE: nothing is TOLD". */
    private static void nothingTold() {
        HairLine x = new HairLine();
        due("least", x.time(0), HairLine.STATE);
        due("greatest", x.time(1), HairLine.STATE);
        due("end -1 first", x.time(-1), HairLine.OUTSIDE);
        due("end 2 first", x.time(2), HairLine.OUTSIDE);
        x.known(0, 20, 0);
        due("what is known is not told", x.time(0), HairLine.STATE);
        x.tell(3, 0);
        timeIs("0 is told", x, -50, 0);
        x.tell(3, -1);
        due("none any more", x.time(0), HairLine.STATE);
    }

    /** "the least (end = 0; may be below 0)". */
    private static void belowZero() {
        HairLine x = told(0);
        timeIs("about 0", x, -50, 0);
        x.known(0, 51, 0);
        timeIs("-50 alone", x, -50, -50);
        HairLine y = told(49);
        timeIs("just below 0", y, -1, 49);
    }

    /** "(Told 1000000 more, that refusals are apart.)" */
    private static void greatestTime() {
        timeIs("99999", told(99999), 99949, 99999);
        HairLine x = told(99999);
        x.known(0, 0, 1);
        timeIs("late by 0", x, 99999, 99999);
    }

    /** "in all: told less its span's ends". */
    private static void inAll() {
        timeIs("two that meet in one", told(1000, 1050), 1000, 1000);
        timeIs("the same the other way", told(1050, 1000), 1000, 1000);
        timeIs("four", told(1000, 1010, 1020, 1030), 980, 1000);
        HairLine x = told(1000, 1010);
        x.known(1, 20, 0);
        timeIs("the ends of one within another's", x, 989, 991);
        HairLine y = told(1000, -1, -1, 1040);
        timeIs("only those who told", y, 990, 1000);
    }

    /** "none: they do not agree"; "OUTSIDE; .. NO". */
    private static void theyDoNotAgree() {
        HairLine x = told(1000, 1051);
        due("one apart", x.time(0), HairLine.NO);
        due("one apart", x.time(1), HairLine.NO);
        due("end 2 first", x.time(2), HairLine.OUTSIDE);
        due("end -1 first", x.time(-1), HairLine.OUTSIDE);
        due("the other way", told(1051, 1000).time(0), HairLine.NO);
        due("the third", told(1000, 1040, 1051).time(0), HairLine.NO);
        due("the fourth", told(1000, 1040, 1020, 949).time(0), HairLine.NO);
        x.tell(1, -1);
        timeIs("one alone agrees", x, 950, 1000);
        HairLine y = told(1000, 1030);
        y.known(0, 5, 0);
        timeIs("994 to 996, 980 to 1030", y, 994, 996);
        y.known(1, 50, 0);
        due("994 to 996, 980 to 981", y.time(0), HairLine.NO);
    }

    /** "SURE faster (its whole span is less): 1; SURE not: 0 (its whole span is t or more); else 2." */
    private static void oldSureFaster() {
        HairLine x = told(1000);
        due("950 to 1000 against 1001", x.old(1001), 1);
        due("against 1000", x.old(1000), 2);
        due("against 951", x.old(951), 2);
        due("against 950", x.old(950), 0);
        due("against 949", x.old(949), 0);
        HairLine y = told(1000, 1050);
        due("1000 alone against 1001", y.old(1001), 1);
        due("against 1000", y.old(1000), 0);
        due("against 999", y.old(999), 0);
    }

    /** "against a time (0 to 99999)". */
    private static void oldTimes() {
        HairLine x = told(0);
        due("-1", x.old(-1), HairLine.OUTSIDE);
        due("-50 to 0 against 0", x.old(0), 2);
        due("against 1", x.old(1), 1);
        x.known(0, 50, 0);
        due("-50 to -49 against 0", x.old(0), 1);
        HairLine y = told(99999);
        due("100000", y.old(100000), HairLine.OUTSIDE);
        due("99949 to 99999 against 99999", y.old(99999), 2);
        y.known(0, 0, 1);
        due("99999 against 99999", y.old(99999), 0);
        HairLine z = told(50);
        due("0 to 50 against 0", z.old(0), 0);
    }

    /** "OUTSIDE; STATE, NO, likewise." */
    private static void oldLikewise() {
        HairLine x = new HairLine();
        due("nothing told", x.old(0), HairLine.STATE);
        due("nothing told, -1", x.old(-1), HairLine.OUTSIDE);
        due("nothing told, 100000", x.old(100000), HairLine.OUTSIDE);
        HairLine y = told(1000, 1051);
        due("they do not agree", y.old(99999), HairLine.NO);
        due("they do not agree, -1", y.old(-1), HairLine.OUTSIDE);
        due("they do not agree, 100000", y.old(100000), HairLine.OUTSIDE);
    }
}
