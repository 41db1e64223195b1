/** Objects that several tests begin with. */
final class Scenes {
    private Scenes() {
    }

    /** A RUNNER for each hair, each in a ROW of its own, so that none hides another. */
    static HairLine withHairs(int... hairs) {
        HairLine x = new HairLine();
        for (int lane = 0; lane < hairs.length; lane++) {
            x.runner(-hairs[lane], 1);
            x.shape(lane, lane, 0, 0, 0);
        }
        return x;
    }

    static void sayAll(HairLine x, String text) {
        for (int i = 0; i < text.length(); i++) {
            x.say(text.charAt(i));
        }
    }
}
