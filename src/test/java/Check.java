/** Counts and prints the answers that are not the ones that are due. */
final class Check {
    private static int wrong = 0;
    private static int asked = 0;

    static void due(String what, long got, long want) {
        asked++;
        if (got != want) {
            wrong++;
            System.out.println(what + " answered " + got + ", due is " + want);
        }
    }

    static void due(String what, boolean got) {
        due(what, got ? 1 : 0, 1);
    }

    /** The calls that are made more change nothing at all. */
    static void nothingChanged(String what, Calls before, Calls more) {
        due(what + ": nothing has changed", Whole.of(before).equals(Whole.of(before.then(more))));
    }

    /** The expression gives these pairs of a key and a value and no others, and so it is assigned to map F. */
    static void values(String what, Calls before, String text, int... pairs) {
        int[] want = new int[16];
        java.util.Arrays.fill(want, -5);
        for (int i = 0; i < pairs.length; i += 2) {
            want[pairs[i]] = pairs[i + 1];
        }
        Run x = before.onNew();
        x.write(text);
        for (int key = 0; key < 16; key++) {
            due(what + " " + text + ": " + key, x.gives(key), want[key]);
        }
        due(what + " " + text + ": assigned", x.assign("F" + text.substring(1)), pairs.length / 2);
        for (int key = 0; key < 16; key++) {
            due(what + " " + text + ": assigned " + key, x.get(5, key), want[key]);
        }
    }

    static int asked() {
        return asked;
    }

    static int wrong() {
        return wrong;
    }

    static void end(String test) {
        System.out.println(test + ": " + asked + " answers, " + wrong + " of them wrong");
        if (wrong != 0) {
            System.exit(1);
        }
    }
}
