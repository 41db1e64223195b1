/**
 * The ends of every number that a call takes, and one beyond them, each with each of the others': whether
 * it is refused, and which refusal comes first. Limits has the numbers as the document tells them.
 */
public final class BoundsTest {
    private static final Check CHECK = new Check("bounds");
    private static final int CALLS_OF_ONE = 300;

    public static void main(String[] args) {
        // nothing is there: a call that is taken would be refused with STATE or NO, or answer NONE
        ends(Script.NEW, 0, 0);
        ends(Scenes.RICH, Scenes.RICH_RUNNERS, Scenes.RICH_SLITS);
        // everything is full: OUTSIDE comes ahead of FULL, and of the NO of judges that do not agree
        ends(Scenes.FULL, 6, 8);
        whichIsSet();
        whatIsTold();
        neverRefused();
        CHECK.end();
    }

    private static void ends(Script scene, int runners, int slits) {
        for (Limits.Form form : Limits.of(runners, slits)) {
            HairLine refusing = scene.play();
            int asked = 0;
            for (int[] values : form.edges()) {
                int due = form.refusal(values);
                Call call = form.with(values);
                if (due == 0) {
                    taken(scene.play(), call);
                } else {
                    if (asked == CALLS_OF_ONE) {
                        refusing = scene.play();
                        asked = 0;
                    }
                    CHECK.due(call.written(), call.on(refusing), due);
                    asked++;
                }
            }
        }
    }

    /** No call of these scenes answers -1 or -2 unless a number is refused. */
    private static void taken(HairLine x, Call call) {
        long got = call.on(x);
        boolean refused = got == HairLine.UNKNOWN || got == HairLine.OUTSIDE;
        CHECK.isTrue(call.written() + " is taken, not " + got, !refused);
    }

    /** "0 LEAN, 1 READ, 2 EAR, 3 whether there is another gun": no other one. */
    private static void whichIsSet() {
        for (int which : new int[] {-1, 4, 10, 13, Integer.MIN_VALUE, Integer.MAX_VALUE}) {
            for (int v : new int[] {0, 1, -4, 201}) {
                CHECK.due("set " + which + ", " + v, new HairLine().set(which, v), HairLine.OUTSIDE);
            }
        }
    }

    /** "0 RUNNERS, 1 SLITS, 2 signs, 3 LINES of the RULE, 10 to 13 what set() sets": no other one. */
    private static void whatIsTold() {
        HairLine x = Scenes.RICH.play();
        int[] due = {3, 3, 6, 3, -2, -2, -2, -2, -2, -2, 1, 2, 101, 1, -2, -2};
        for (int what = 0; what < due.length; what++) {
            CHECK.due("told " + what, x.told(what), due[what]);
        }
    }

    /** moved, order and mended take every number: there is no RUNNER, or no pair, of most of them. */
    private static void neverRefused() {
        for (int i : new int[] {Integer.MIN_VALUE, -3, -2, 15, 16, Integer.MAX_VALUE}) {
            for (HairLine x : new HairLine[] {new HairLine(), Scenes.RICH.play(), Scenes.FULL.play()}) {
                CHECK.due("moved " + i, x.moved(i), HairLine.NONE);
                CHECK.due("order " + i, x.order(i), HairLine.NONE);
                CHECK.due("mended " + i, x.mended(i), HairLine.NONE);
                CHECK.due("mended " + -1, x.mended(-1), HairLine.NONE);
            }
        }
    }
}
