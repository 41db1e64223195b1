/** Objects that several tests begin with. */
final class Scenes {
    static final int RICH_RUNNERS = 3;
    static final int RICH_SLITS = 3;
    /** Something of everything, and room for more; the signs are no RULE, for more must come. */
    static final Script RICH = rich();
    /** Six RUNNERS, eight SLITS, thirty signs; all JUDGES have told, and do not agree. */
    static final Script FULL = full();

    private Scenes() {
    }

    /** A RUNNER for each hair, each in a ROW of its own, so that none hides another. */
    static HairLine withHairs(int... hairs) {
        HairLine x = new HairLine();
        for (int lane = 0; lane < hairs.length; lane++) {
            x.runner(-hairs[lane], 1);
            x.shape(lane, lane, 0, 0, 0);
        }
        return x;
    }

    static HairLine saying(String text) {
        HairLine x = new HairLine();
        sayAll(x, text);
        return x;
    }

    static void sayAll(HairLine x, String text) {
        for (int i = 0; i < text.length(); i++) {
            x.say(text.charAt(i));
        }
    }

    private static Script rich() {
        return richRunners()
            .then("set", 0, 1).then("set", 1, 2).then("set", 2, 101).then("set", 3, 1)
            .then("push", 0, 101).then("push", 1, 103)
            .then("known", 0, 1020, 1000).then("known", 1, 1040, 1000)
            .then("tell", 0, 1020).then("tell", 2, 1030)
            .then("slit", 0, 1).then("slit", 1, 40).then("slit", 0, 63)
            .thenSay("t<1000;w<21;e=0").then("rule").thenSay("w<2;t<");
    }

    private static Script richRunners() {
        return Script.NEW
            .then("runner", -20, 1).then("runner", -30, 2).then("runner", -18, 1)
            .then("shape", 0, 0, 0, -2, 2).then("shape", 0, 0, 1, -5, 4).then("shape", 0, 3, 0, -1, 0)
            .then("shape", 1, 0, 0, -3, 3).then("shape", 1, 5, 1, -4, 4).then("shape", 1, 5, 0, -2, 6)
            .then("shape", 2, 4, 0, -3, 1).then("shape", 2, 3, 1, -2, 5);
    }

    private static Script full() {
        Script s = Script.NEW;
        for (int lane = 0; lane < 6; lane++) {
            s = s.then("runner", -20 - lane, 1 + lane % 2).then("shape", lane, lane, 0, -2, 2)
                .then("shape", lane, 5 - lane, 1, -4, 3).then("push", lane, 100 + lane);
        }
        for (int slit = 0; slit < 8; slit++) {
            s = s.then("slit", slit % 2, 1 + 7 * slit);
        }
        for (int judge = 0; judge < 4; judge++) {
            s = s.then("known", judge, 1010 + judge, 1000).then("tell", judge, 1000 + 50 * judge);
        }
        return s.then("set", 0, 2).then("set", 1, 9).then("set", 2, 200)
            .thenSay("t>0;t>1;t>2;t>3;t>4;t>5;t>-666").then("rule").thenSay("t>1;w>1;h>2;e>3;t>4;w>5;h>-667");
    }
}
