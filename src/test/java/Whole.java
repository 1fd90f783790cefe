/**
 * All that an object can tell of itself, as text: the state, the text, the states in the history and the
 * snapshot. So many calls would be more than an object is good for, so each part is asked of a new object
 * on which the same calls have been made.
 */
final class Whole {
    private static final int MAPS = 6;
    private static final int KEYS = 16;
    private static final int STATES = 4;

    static String of(Calls calls) {
        StringBuilder all = new StringBuilder(text(calls));
        for (int undos = 0; undos <= STATES; undos++) {
            int times = undos;
            all.append("after ").append(undos).append(" undos:\n");
            all.append(state(calls.then(x -> undo(x, times))));
        }
        all.append("after restore:\n").append(state(calls.then(Run::restore)));
        return all.toString();
    }

    private static void undo(Run x, int times) {
        for (int i = 0; i < times; i++) {
            x.undo();
        }
    }

    /** The text and the number of states in the history are told too. */
    static String state(Calls calls) {
        StringBuilder all = new StringBuilder();
        for (int map = 0; map < MAPS; map++) {
            map(calls.onNew(), map, all);
        }
        Run x = calls.onNew();
        for (int what = 0; what < 7; what++) {
            all.append(x.count(what)).append(' ');
        }
        secret(calls, all);
        return all.toString();
    }

    private static void map(Run x, int map, StringBuilder all) {
        int layers = x.map(map, 0);
        for (int layer = 0; layer < layers; layer++) {
            all.append(x.layer(map, layer, 1)).append(':');
            for (int key = 0; key < KEYS; key++) {
                all.append(x.entry(map, layer, key)).append(' ');
            }
        }
        for (int key = 0; key < KEYS; key++) {
            all.append(x.get(map, key)).append(' ');
        }
        all.append('\n');
    }

    private static void secret(Calls calls, StringBuilder all) {
        Run x = calls.onNew();
        for (int what = 0; what < 6; what++) {
            all.append(x.hidden(what)).append(' ');
        }
        for (int key = 0; key < KEYS; key++) {
            all.append(x.split(key, 0)).append(' ').append(x.split(key, 1)).append(' ');
        }
        for (int key = 0; key < KEYS; key++) {
            all.append(x.ask(key)).append(' ').append(x.hidden(0)).append(' ');
            x.undo();
        }
        all.append('\n');
    }

    private static String text(Calls calls) {
        StringBuilder all = new StringBuilder();
        Run x = calls.onNew();
        all.append(x.count(6)).append(' ');
        for (int key = 0; key < KEYS; key++) {
            all.append(x.gives(key)).append(' ');
        }
        all.append(x.clearText()).append('\n');
        for (int map = 0; map < MAPS; map++) {
            Run y = calls.onNew();
            all.append(y.push(map)).append(' ');
            map(y, map, all);
        }
        Run z = calls.onNew();
        all.append(z.assign()).append(' ');
        map(z, 0, all);
        return all.toString();
    }
}
