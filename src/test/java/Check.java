/** Counts the answers of one test that are not as due. */
final class Check {
    private final String name;
    private int asked;
    private int wrong;

    Check(String name) {
        this.name = name;
    }

    void due(String call, long got, long want) {
        asked++;
        if (got != want) {
            wrong++;
            System.out.println(name + ": " + call + " answered " + got + ", due is " + want);
        }
    }

    void isTrue(String what, boolean so) {
        due(what, so ? 1 : 0, 1);
    }

    void end() {
        System.out.println(name + ": " + asked + " asked, " + wrong + " wrong");
        if (wrong != 0 || asked == 0) {
            System.exit(1);
        }
    }
}
