import java.util.ArrayList;
import java.util.Arrays;
import java.util.List;

/** Which numbers each call takes, as the document tells them, and what it answers to another one. */
final class Limits {
    record Number(int least, int most, int refusal) {
        boolean takes(int v) {
            return least <= v && v <= most;
        }

        int[] edges() {
            return new int[] {least, most, least - 1, most + 1, Integer.MIN_VALUE, Integer.MAX_VALUE};
        }
    }

    /** Ahead of its numbers stand fixed ones: which setting it is that set() sets. */
    record Form(String name, int[] fixed, Number... numbers) {
        /** The first that fits of UNKNOWN and OUTSIDE; 0: every number is as told. */
        int refusal(int... values) {
            int due = 0;
            for (int i = 0; i < values.length; i++) {
                if (!numbers[i].takes(values[i])) {
                    due = due == HairLine.UNKNOWN ? due : numbers[i].refusal();
                }
            }
            // "OUTSIDE: from above to, too"
            return due == 0 && name.equals("wrong") && values[0] > values[1] ? HairLine.OUTSIDE : due;
        }

        /** The ends of each number, one beyond them, and the farthest, each with each of the others'. */
        List<int[]> edges() {
            List<int[]> rows = new ArrayList<>();
            rows.add(new int[numbers.length]);
            for (int i = 0; i < numbers.length; i++) {
                List<int[]> longer = new ArrayList<>();
                for (int[] row : rows) {
                    for (int v : numbers[i].edges()) {
                        int[] copy = row.clone();
                        copy[i] = v;
                        longer.add(copy);
                    }
                }
                rows = longer;
            }
            return rows;
        }

        Call with(int... values) {
            int[] all = Arrays.copyOf(fixed, fixed.length + values.length);
            System.arraycopy(values, 0, all, fixed.length, values.length);
            return new Call(name, all);
        }
    }

    private static final Number ROW = new Number(0, 5, HairLine.UNKNOWN);
    private static final Number JUDGE = new Number(0, 3, HairLine.UNKNOWN);
    private static final Number EITHER = other(0, 1);
    private static final Number REACH = other(-9, 9);
    private static final Number TIME = other(0, 99999);
    private static final Number FACT = other(-9999, 9999);

    private Limits() {
    }

    private static Number other(int least, int most) {
        return new Number(least, most, HairLine.OUTSIDE);
    }

    private static Form form(String name, Number... numbers) {
        return new Form(name, new int[0], numbers);
    }

    private static Form setting(int which, int least, int most) {
        return new Form("set", new int[] {which}, other(least, most));
    }

    /** All calls that refuse a number, for an object with so many RUNNERS and SLITS. */
    static List<Form> of(int runners, int slits) {
        List<Form> forms = new ArrayList<>();
        addRunners(forms, new Number(0, runners - 1, HairLine.UNKNOWN));
        addSettings(forms);
        addJudges(forms);
        forms.add(form("shows", EITHER, other(0, 299), ROW));
        forms.add(form("speeds", other(1, 19), other(0, 30), EITHER));
        forms.add(form("wrong", other(0, 200), other(0, 200), other(1, 6), EITHER));
        forms.add(form("say", other(33, 126)));
        forms.add(form("record", FACT, FACT, FACT, FACT));
        forms.add(form("slit", EITHER, other(1, 63)));
        forms.add(form("seen", other(0, (1 << slits) - 1), EITHER));
        forms.add(form("best", other(0, 8), EITHER));
        forms.add(form("told", other(0, 3)));
        forms.add(form("told", other(10, 13)));
        return forms;
    }

    private static void addRunners(List<Form> forms, Number runner) {
        forms.add(form("runner", other(-3000, 0), other(1, 20)));
        forms.add(form("shape", runner, ROW, EITHER, REACH, REACH));
        forms.add(form("of", runner, other(0, 7)));
        forms.add(form("place", runner, EITHER));
        forms.add(form("stretch", runner, ROW));
        forms.add(form("push", runner, other(-1, 299)));
    }

    private static void addSettings(List<Form> forms) {
        forms.add(setting(0, -3, 3));
        forms.add(setting(1, 0, 9));
        forms.add(setting(2, 0, 200));
        forms.add(setting(3, 0, 1));
    }

    private static void addJudges(List<Form> forms) {
        forms.add(form("known", JUDGE, TIME, TIME));
        forms.add(form("late", JUDGE, EITHER));
        forms.add(form("tell", JUDGE, other(-1, 99999)));
        forms.add(form("time", EITHER));
        forms.add(form("old", TIME));
    }
}
