/**
 * "An object is used for at most 512 calls after it has been made": the last of them answers as it would
 * have at once, though all that went between came to nothing.
 */
public final class LifeTest {
    private static final Check CHECK = new Check("life");
    private static final int CALLS = 512;

    public static void main(String[] args) {
        lastCall(Script.NEW);
        lastCall(Scenes.RICH);
        lastCall(Scenes.FULL);
        CHECK.end();
    }

    private static void lastCall(Script scene) {
        Script early = scene.then("push", 0, 7).then("push", 0, -1).then("tell", 3, -1);
        Script late = toAndFro(early);
        CHECK.due("one call is left", CALLS - late.size(), 1);
        for (int i = 0; i < Look.size(); i++) {
            Call call = Look.question(i);
            CHECK.due(call.written(), call.on(late.play()), call.on(early.play()));
        }
    }

    /** Whatever is set is set back, whatever is told is taken back, all else is refused or only asks. */
    private static Script toAndFro(Script scene) {
        int lean = scene.play().told(10);
        Script longer = scene;
        while (longer.size() <= CALLS - 1 - 12) {
            longer = longer.then("set", 0, -3).then("order", 0).then("set", 0, lean)
                .then("push", 0, 299).then("push", 0, -1).then("tell", 3, 99999).then("tell", 3, -1)
                .then("say", 32).then("known", 0, 99999, 0).then("runner", 1, 1).then("slit", 2, 1).then("best", 8, 1);
        }
        while (longer.size() < CALLS - 1) {
            longer = longer.then("moved", -1);
        }
        return longer;
    }
}
