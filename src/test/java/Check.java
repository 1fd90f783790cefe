/** Counts and prints the answers that are not the ones that are due. */
final class Check {
    private static int wrong = 0;
    private static int asked = 0;

    static void due(String what, long got, long want) {
        asked++;
        if (got != want) {
            wrong++;
            System.out.println(what + " answered " + got + ", due is " + want);
        }
    }

    static void due(String what, boolean got) {
        due(what, got ? 1 : 0, 1);
    }

    /** Puts a text in place of the one that was. */
    static void write(PileMaps x, String text) {
        x.clearText();
        for (int i = 0; i < text.length(); i++) {
            x.type(text.charAt(i));
        }
    }

    static int push(PileMaps x, int map, String layer) {
        write(x, layer);
        return x.push(map);
    }

    static int assign(PileMaps x, String assignment) {
        write(x, assignment);
        return x.assign();
    }

    static int gives(PileMaps x, String assignment, int key) {
        write(x, assignment);
        return x.gives(key);
    }

    /** All that can be told of the state, as text; the text itself and the history are told by their lengths. */
    static String whole(PileMaps x) {
        StringBuilder all = new StringBuilder();
        for (int map = 0; map < 6; map++) {
            for (int layer = 0; layer < x.map(map, 0); layer++) {
                all.append(x.layer(map, layer, 1)).append(':');
                for (int key = 0; key < 16; key++) {
                    all.append(x.entry(map, layer, key)).append(' ');
                }
            }
            for (int key = 0; key < 16; key++) {
                all.append(x.get(map, key)).append(' ');
            }
            all.append('\n');
        }
        for (int what = 0; what < 7; what++) {
            all.append(x.count(what)).append(' ');
        }
        for (int what = 0; what < 6; what++) {
            all.append(x.hidden(what)).append(' ');
        }
        for (int key = 0; key < 16; key++) {
            all.append(x.split(key, 0)).append(' ').append(x.split(key, 1)).append(' ');
        }
        return all.toString();
    }

    static void end(String test) {
        System.out.println(test + ": " + asked + " answers, " + wrong + " of them wrong");
        if (wrong != 0) {
            System.exit(1);
        }
    }
}
