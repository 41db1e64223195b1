import java.util.ArrayList;
import java.util.List;

/** "Calls that are refused .. change nothing": what Look asks is answered as it was. */
public final class RefusedTest {
    private static final Check CHECK = new Check("refused");
    private static final int MOST_CALLS = 300;

    public static void main(String[] args) {
        lookSees();
        asksLeaveAll();
        numbersRefused(Script.NEW, 0, 0);
        numbersRefused(Scenes.RICH, Scenes.RICH_RUNNERS, Scenes.RICH_SLITS);
        numbersRefused(Scenes.FULL, 6, 8);
        nothingYet();
        noRule();
        nothingInBoth();
        noneAgree();
        full();
        CHECK.end();
    }

    private static void same(String what, Script scene, Script later) {
        int at = Look.apart(Look.at(scene), Look.at(later));
        CHECK.isTrue(what + (at < 0 ? "" : " changes " + Look.question(at).written()), at < 0);
    }

    private static void refused(Script scene, int due, String name, int... args) {
        Call call = new Call(name, args);
        CHECK.due(call.written(), call.on(scene.play()), due);
        same(call.written(), scene, scene.then(call));
    }

    /** Each call that is taken and changes something is seen by the look, else the rest proves nothing. */
    private static void lookSees() {
        Script rich = Scenes.RICH;
        List<Script> changed = new ArrayList<>();
        changed.add(rich.then("runner", -10, 1));
        for (int runner = 0; runner < Scenes.RICH_RUNNERS; runner++) {
            for (int row = 0; row < 6; row++) {
                changed.add(rich.then("shape", runner, row, 0, -6, 6));
                changed.add(rich.then("shape", runner, row, 1, -7, 7));
            }
            changed.add(rich.then("push", runner, 7));
        }
        for (int which = 0; which < 4; which++) {
            changed.add(rich.then("set", which, 0));
        }
        for (int judge = 0; judge < 4; judge++) {
            changed.add(rich.then("known", judge, 1000, 1000 - 21 - 20 * (judge % 2)));
            changed.add(rich.then("tell", judge, 1010));
        }
        changed.add(rich.then("say", '1'));
        changed.add(rich.then("wipe"));
        changed.add(rich.then("say", '1').then("rule"));
        changed.add(rich.then("slit", 0, 1));
        long[] before = Look.at(rich);
        for (int i = 0; i < changed.size(); i++) {
            CHECK.isTrue("the look sees change " + i, Look.apart(before, Look.at(changed.get(i))) >= 0);
        }
    }

    /** What only asks changes nothing, either. */
    private static void asksLeaveAll() {
        String[] names = {"shows", "of", "moved", "order", "place", "stretch", "speeds", "mended", "wrong", "late",
            "time", "old", "fault", "record", "seen", "best", "told"};
        int[][] args = {{0, 20, 0}, {1, 2}, {-1}, {0}, {1, 1}, {0, 0}, {9, 3, 0}, {0}, {90, 119, 2, 0}, {0, 1},
            {0}, {1000}, {}, {1000, 0, 0, 0}, {7, 1}, {8, 0}, {0}};
        for (int i = 0; i < names.length; i++) {
            Call call = new Call(names[i], args[i]);
            same(call.written(), Scenes.RICH, Scenes.RICH.then(call));
            same(call.written(), Scenes.FULL, Scenes.FULL.then(call));
        }
    }

    /** UNKNOWN and OUTSIDE of every call, with every mix of wrong numbers. */
    private static void numbersRefused(Script scene, int runners, int slits) {
        long[] before = Look.at(scene);
        for (Limits.Form form : Limits.of(runners, slits)) {
            Script later = scene;
            for (int[] values : form.edges()) {
                if (form.refusal(values) != 0) {
                    later = later.then(form.with(values));
                }
                if (later.size() == MOST_CALLS) {
                    leavesAll(form, before, later);
                    later = scene;
                }
            }
            leavesAll(form, before, later);
        }
    }

    private static void leavesAll(Limits.Form form, long[] before, Script later) {
        int at = Look.apart(before, Look.at(later));
        CHECK.isTrue("a refused " + form.name() + (at < 0 ? "" : " changes " + Look.question(at).written()), at < 0);
    }

    /** "STATE: nothing is TOLD"; "STATE: no RULE"; "NO: there is a FAULT" of no signs. */
    private static void nothingYet() {
        refused(Script.NEW, HairLine.STATE, "time", 0);
        refused(Script.NEW, HairLine.STATE, "time", 1);
        refused(Script.NEW, HairLine.STATE, "old", 0);
        refused(Script.NEW, HairLine.STATE, "record", 0, 0, 0, 0);
        refused(Script.NEW, HairLine.NO, "rule");
    }

    /** "NO: there is a FAULT": the signs stay, and the RULE that was. */
    private static void noRule() {
        refused(Scenes.RICH, HairLine.NO, "rule");
        refused(Scenes.RICH.then("wipe"), HairLine.NO, "rule");
        refused(Scenes.RICH.then("say", 'q'), HairLine.NO, "rule");
        refused(Script.NEW.then("say", 't'), HairLine.NO, "rule");
    }

    /** "NO: nothing is in both (it stays)". */
    private static void nothingInBoth() {
        refused(Scenes.RICH, HairLine.NO, "known", 0, 1023, 1000);
        refused(Scenes.RICH, HairLine.NO, "known", 0, 1017, 1000);
        refused(Scenes.RICH, HairLine.NO, "known", 2, 52, 0);
        refused(Scenes.RICH, HairLine.NO, "known", 2, 0, 2);
        refused(Script.NEW, HairLine.NO, "known", 3, 99999, 0);
        refused(Script.NEW, HairLine.NO, "known", 3, 0, 99999);
    }

    /** "NO: they do not agree". */
    private static void noneAgree() {
        refused(Scenes.FULL, HairLine.NO, "time", 0);
        refused(Scenes.FULL, HairLine.NO, "time", 1);
        refused(Scenes.FULL, HairLine.NO, "old", 1000);
    }

    /** "RUNNERS, 6 at most", "up to 30 signs", "SLITS, 8 at most": FULL. */
    private static void full() {
        refused(Scenes.FULL, HairLine.FULL, "runner", -1, 3);
        refused(Scenes.FULL, HairLine.FULL, "slit", 1, 63);
        refused(Scenes.FULL, HairLine.FULL, "say", '7');
    }
}
