/** Promises 15 to 19: known, late, tell, time, old. */
public final class JudgesTest {
    private static final Check CHECK = new Check("judges");
    private static final int MIN = Integer.MIN_VALUE;
    private static final int MAX = Integer.MAX_VALUE;
    private static final int MORE = 1000000;

    public static void main(String[] args) {
        known();
        knownAtEnds();
        knownWrong();
        late();
        tell();
        time();
        timeRefused();
        old();
        oldRefused();
        CHECK.end();
    }

    private static void due(String call, long got, long want) {
        CHECK.due(call, got, want);
    }

    private static void lateIs(HairLine x, int judge, int least, int greatest) {
        due("least of " + judge, x.late(judge, 0), least);
        due("greatest of " + judge, x.late(judge, 1), greatest);
    }

    private static void known() {
        HairLine x = new HairLine();
        due("late by 30", x.known(2, 1030, 1000), 1);
        lateIs(x, 2, 29, 31);
        lateIs(x, 1, 0, 50);
        lateIs(x, 3, 0, 50);
        due("late by 27", x.known(2, 1027, 1000), HairLine.NO);
        due("late by 33", x.known(2, 1033, 1000), HairLine.NO);
        lateIs(x, 2, 29, 31);
        due("late by 29", x.known(2, 29, 0), 1);
        lateIs(x, 2, 29, 30);
        due("late by 31", x.known(2, 99999, 99968), 1);
        lateIs(x, 2, 30, 30);
        due("again", x.known(2, 530, 500), 1);
        lateIs(x, 2, 30, 30);
        due("late by 28", x.known(2, 528, 500), HairLine.NO);
        lateIs(x, 2, 30, 30);
    }

    private static void knownAtEnds() {
        HairLine x = new HairLine();
        due("52", x.known(0, 52, 0), HairLine.NO);
        due("-2", x.known(0, 0, 2), HairLine.NO);
        lateIs(x, 0, 0, 50);
        due("51", x.known(0, 51, 0), 1);
        lateIs(x, 0, 50, 50);
        due("-1", x.known(1, 0, 1), 1);
        lateIs(x, 1, 0, 0);
        due("0", x.known(2, 7, 7), 1);
        lateIs(x, 2, 0, 1);
        due("50", x.known(3, 57, 7), 1);
        lateIs(x, 3, 49, 50);
    }

    private static void knownWrong() {
        HairLine x = new HairLine();
        int[] judges = {-1, 4, MIN, MAX};
        for (int judge : judges) {
            due("unknown judge", x.known(judge, 0, 0), HairLine.UNKNOWN);
            due("unknown judge, wrong times", x.known(judge, -1, 100000), HairLine.UNKNOWN);
        }
        int[][] times = {{-1, 0}, {0, -1}, {100000, 99999}, {99999, 100000}, {MIN, MAX}, {MAX, MIN}};
        for (int[] t : times) {
            due("known outside", x.known(0, t[0], t[1]), HairLine.OUTSIDE);
        }
        due("farthest", x.known(0, 99999, 0), HairLine.NO);
        due("farthest", x.known(0, 0, 99999), HairLine.NO);
        lateIs(x, 0, 0, 50);
    }

    private static void late() {
        HairLine x = new HairLine();
        due("end 2", x.late(0, 2), HairLine.OUTSIDE);
        due("end -1", x.late(0, -1), HairLine.OUTSIDE);
        due("judge 4", x.late(4, 0), HairLine.UNKNOWN);
        due("judge -1, end 2", x.late(-1, 2), HairLine.UNKNOWN);
        due("judge MAX", x.late(MAX, 0), HairLine.UNKNOWN);
    }

    private static void tell() {
        HairLine x = new HairLine();
        for (int judge = 0; judge < 4; judge++) {
            due("none at first", x.tell(judge, 100 + judge), HairLine.NONE);
        }
        for (int judge = 0; judge < 4; judge++) {
            due("was", x.tell(judge, -1), 100 + judge);
            due("was none", x.tell(judge, -1), HairLine.NONE);
        }
        due("0", x.tell(0, 0), HairLine.NONE);
        due("99999", x.tell(0, 99999), 0);
        due("100000", x.tell(0, 100000), HairLine.OUTSIDE);
        due("-2", x.tell(0, -2), HairLine.OUTSIDE);
        due("MIN", x.tell(0, MIN), HairLine.OUTSIDE);
        due("judge 4", x.tell(4, 0), HairLine.UNKNOWN);
        due("judge -1 and wrong", x.tell(-1, -2), HairLine.UNKNOWN);
        due("it stayed", x.tell(0, 1), 99999);
    }

    private static void time() {
        HairLine x = new HairLine();
        x.tell(3, 0);
        due("below 0", x.time(0), MORE - 50);
        due("to 0", x.time(1), MORE);
        x.tell(3, 99999);
        due("99949", x.time(0), MORE + 99949);
        due("99999", x.time(1), MORE + 99999);
        x.tell(3, 1000);
        x.tell(0, 1020);
        due("in both, least", x.time(0), MORE + 970);
        due("in both, greatest", x.time(1), MORE + 1000);
        x.known(1, 10, 0);
        x.tell(1, 985);
        // late by 9 to 11: 974 to 976
        due("in all, least", x.time(0), MORE + 974);
        due("in all, greatest", x.time(1), MORE + 976);
        x.known(1, 12, 0);
        due("what is learned counts at once", x.time(0), MORE + 974);
        due("what is learned counts at once", x.time(1), MORE + 974);
        x.tell(1, -1);
        x.tell(0, 1050);
        due("just one is in both", x.time(0), MORE + 1000);
        due("just one is in both", x.time(1), MORE + 1000);
    }

    private static void timeRefused() {
        HairLine x = new HairLine();
        due("end 2 ahead of STATE", x.time(2), HairLine.OUTSIDE);
        due("end -1", x.time(-1), HairLine.OUTSIDE);
        due("nothing told", x.time(1), HairLine.STATE);
        x.tell(1, 1000);
        x.tell(2, 1051);
        due("they do not agree", x.time(0), HairLine.NO);
        due("they do not agree", x.time(1), HairLine.NO);
        due("end ahead of NO", x.time(2), HairLine.OUTSIDE);
        x.tell(3, 1025);
        due("nor with a third between", x.time(0), HairLine.NO);
        x.tell(1, -1);
        due("they do", x.time(0), MORE + 1001);
        x.tell(2, -1);
        x.tell(3, -1);
        due("nothing again", x.time(0), HairLine.STATE);
    }

    private static void old() {
        HairLine x = new HairLine();
        x.tell(0, 1000);
        // 950 to 1000
        due("t = 1001", x.old(1001), 1);
        due("t = 1000", x.old(1000), 2);
        due("t = 951", x.old(951), 2);
        due("t = 950", x.old(950), 0);
        due("t = 949", x.old(949), 0);
        due("t = 99999", x.old(99999), 1);
        due("t = 0", x.old(0), 0);
        x.tell(0, 20);
        due("a span about 0", x.old(0), 2);
        due("a span about 0", x.old(21), 1);
    }

    private static void oldRefused() {
        HairLine x = new HairLine();
        due("100000", x.old(100000), HairLine.OUTSIDE);
        due("-1", x.old(-1), HairLine.OUTSIDE);
        due("MIN", x.old(MIN), HairLine.OUTSIDE);
        due("nothing told", x.old(0), HairLine.STATE);
        x.tell(0, 0);
        x.tell(1, 51);
        due("they do not agree", x.old(0), HairLine.NO);
        due("outside ahead of NO", x.old(-1), HairLine.OUTSIDE);
    }
}
